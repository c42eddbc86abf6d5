import java.math.BigInteger;
import java.util.ArrayList;
import java.util.Arrays;
import java.util.List;
import java.util.NoSuchElementException;
import java.util.regex.Matcher;
import java.util.regex.Pattern;

/** The document told again, each sentence by itself, in the slowest and plainest way. */
final class PlainModel {
    static final int NONE = -1;

    static final class Rat implements Comparable<Rat> {
        final BigInteger up;
        final BigInteger low;

        Rat(BigInteger u, BigInteger l) {
            if (l.signum() < 0) {
                u = u.negate();
                l = l.negate();
            }
            BigInteger g = u.gcd(l);
            up = u.divide(g);
            low = l.divide(g);
        }

        static Rat of(long u, long l) {
            return new Rat(BigInteger.valueOf(u), BigInteger.valueOf(l));
        }

        Rat plus(Rat o) {
            return new Rat(up.multiply(o.low).add(o.up.multiply(low)), low.multiply(o.low));
        }

        Rat minus(Rat o) {
            return plus(o.times(of(-1, 1)));
        }

        Rat times(Rat o) {
            return new Rat(up.multiply(o.up), low.multiply(o.low));
        }

        Rat by(Rat o) {
            return new Rat(up.multiply(o.low), low.multiply(o.up));
        }

        @Override
        public int compareTo(Rat o) {
            return up.multiply(o.low).compareTo(o.up.multiply(low));
        }
    }

    static final class Hit {
        int way;
        int pace;
        int air;
        int weight;
        int seen;

        Hit copy() {
            Hit h = new Hit();
            h.way = way;
            h.pace = pace;
            h.air = air;
            h.weight = weight;
            h.seen = seen;
            return h;
        }
    }

    /** THE FIELD alone. */
    static final class Field {
        int lines = 0;
        int edge = 8;
        int run = 9;
        int worth = 20;
        int side = 9;
        int near = 1;
        int[] slow = new int[289];
        List<List<Hit>> balls = new ArrayList<>();

        Field() {
            for (int i = 0; i < 6; i++) {
                balls.add(new ArrayList<>());
            }
        }

        Field copy() {
            Field f = new Field();
            f.lines = lines;
            f.edge = edge;
            f.run = run;
            f.worth = worth;
            f.side = side;
            f.near = near;
            f.slow = slow.clone();
            for (int i = 0; i < 6; i++) {
                for (Hit h : balls.get(i)) {
                    f.balls.get(i).add(h.copy());
                }
            }
            return f;
        }
    }

    static final class World {
        Field field = new Field();
        int[] stand = new int[9];
        int[] pace = new int[9];
        int[] hands = new int[9];
        int[] per = new int[9];
        int[] arm = new int[9];
        int[][] ways = new int[4][];
        int kind = 0;
        int share = 0;
        boolean chase = false;
        int[] score = new int[4];

        World() {
            Arrays.fill(stand, NONE);
            Arrays.fill(pace, 3);
            Arrays.fill(hands, 80);
            Arrays.fill(per, 10);
            Arrays.fill(arm, 1);
        }

        World copy() {
            World w = new World();
            w.field = field.copy();
            w.stand = stand.clone();
            w.pace = pace.clone();
            w.hands = hands.clone();
            w.per = per.clone();
            w.arm = arm.clone();
            for (int i = 0; i < 4; i++) {
                w.ways[i] = ways[i] == null ? null : ways[i].clone();
            }
            w.kind = kind;
            w.share = share;
            w.chase = chase;
            w.score = score.clone();
            return w;
        }
    }

    static final class Row {
        int sort;
        long[] numbers;
    }

    static final class Fault extends RuntimeException {
        private static final long serialVersionUID = 1L;
        final int kind;
        final int place;

        Fault(int kind, int place) {
            this.kind = kind;
            this.place = place;
        }
    }

    World w = new World();
    World[] images = new World[3];
    Row[] trays = new Row[4];
    StringBuilder tape = new StringBuilder();
    int faultKind = 0;
    int faultPlace = NONE;
    BigInteger up = BigInteger.ZERO;
    BigInteger low = BigInteger.ZERO;

    // ---- the field

    int feed(int a, int b, int c, int d, int e) {
        if (tape.length() + 20 > 800) {
            return NONE;
        }
        for (int four : new int[] {a, b, c, d, e}) {
            tape.append((char) (four >>> 24 & 255)).append((char) (four >>> 16 & 255));
            tape.append((char) (four >>> 8 & 255)).append((char) (four & 255));
        }
        return tape.length();
    }

    int field(int n) {
        if (n < 0 || n > tape.length()) {
            throw new IllegalArgumentException();
        }
        String text = tape.substring(0, n);
        tape.setLength(0);
        try {
            Field told = new Parser(text).parse();
            faultKind = 0;
            faultPlace = NONE;
            w.field = told;
            Arrays.fill(w.stand, NONE);
            Arrays.fill(w.ways, null);
            Arrays.fill(w.score, 0);
            return told.lines;
        } catch (Fault f) {
            faultKind = f.kind;
            faultPlace = f.place;
            return -10 - f.kind;
        }
    }

    /** All TOKENS first, then the LINES over them. */
    static final class Parser {
        final List<String> tokens = new ArrayList<>();
        final List<Integer> places = new ArrayList<>();
        int at = 0;
        Field f = new Field();

        Parser(String text) {
            Matcher m = Pattern.compile("[a-z]+|[0-9]+|[^ \n]", Pattern.DOTALL).matcher(text);
            while (m.find()) {
                tokens.add(m.group());
                places.add(m.start());
            }
            tokens.add("");
            places.add(text.length());
        }

        Fault fault(int kind) {
            return new Fault(isToken() ? kind : 1, places.get(at));
        }

        boolean isToken() {
            String t = tokens.get(at);
            return t.isEmpty() || t.matches("[a-z]+|[0-9]{1,3}|;");
        }

        String word() {
            return tokens.get(at);
        }

        void must(String word) {
            if (!word().equals(word)) {
                throw fault(2);
            }
            at++;
        }

        int number(int least, int most) {
            if (!word().matches("[0-9]{1,3}")) {
                throw fault(2);
            }
            int n = Integer.parseInt(word());
            if (n < least || n > most) {
                throw fault(3);
            }
            at++;
            return n;
        }

        Field parse() {
            while (!word().isEmpty()) {
                String first = word();
                if (!first.matches("edge|run|worth|side|near|slow|ball")) {
                    throw fault(2);
                }
                if (f.lines == 30) {
                    throw fault(4);
                }
                at++;
                rest(first);
                must(";");
                f.lines++;
            }
            return f;
        }

        void rest(String first) {
            switch (first) {
                case "edge" -> f.edge = number(2, 8);
                case "run" -> f.run = number(1, 60);
                case "worth" -> f.worth = number(0, 99);
                case "side" -> f.side = number(0, 9);
                case "near" -> f.near = number(0, 8);
                case "slow" -> {
                    int n = number(0, 20);
                    must("at");
                    do {
                        f.slow[number(0, 288)] = n;
                    } while (word().matches("[0-9]{1,3}"));
                }
                default -> {
                    List<Hit> hits = f.balls.get(number(0, 5));
                    do {
                        if (word().equals("way") && hits.size() == 8) {
                            throw fault(5);
                        }
                        must("way");
                        Hit h = new Hit();
                        h.way = number(0, 15);
                        must("pace");
                        h.pace = number(1, 9);
                        if (word().equals("air")) {
                            at++;
                            h.air = number(1, 8);
                        }
                        must("for");
                        h.weight = number(1, 99);
                        hits.add(h);
                    } while (word().equals("way"));
                }
            }
        }
    }

    int fault(int what) {
        return what == 0 ? faultKind : what == 1 ? faultPlace : NONE;
    }

    static void none(boolean yes) {
        if (!yes) {
            throw new NoSuchElementException();
        }
    }

    static void bad(boolean yes) {
        if (!yes) {
            throw new IllegalArgumentException();
        }
    }

    static void ill(boolean yes) {
        if (!yes) {
            throw new IllegalStateException();
        }
    }

    static void ball(int ball) {
        none(ball >= 0 && ball <= 5);
    }

    List<Hit> of(int ball) {
        return w.field.balls.get(ball);
    }

    Hit told(int ball, int hit) {
        ball(ball);
        none(hit >= 0 && hit < of(ball).size());
        return of(ball).get(hit);
    }

    int hits(int ball) {
        ball(ball);
        return of(ball).size();
    }

    static final int[][] WAYS = {{0, -1}, {1, -2}, {1, -1}, {2, -1}, {1, 0}, {2, 1}, {1, 1}, {1, 2}, {0, 1}};

    static int[] step(int way) {
        return way <= 8 ? WAYS[way] : new int[] {-WAYS[16 - way][0], WAYS[16 - way][1]};
    }

    /** A HIT as a BATTER of a KIND makes it. */
    final class Made {
        final Hit h;
        int way;
        int air;
        final List<Integer> cells = new ArrayList<>();

        Made(Hit h, int kind) {
            this.h = h;
            way = h.way;
            air = h.air;
            if (kind == 2) {
                air = 0;
            }
            if (kind == 3 && air < 3) {
                air = 3;
            }
            if (kind == 4) {
                way = 16 - way;
                if (way >= 16) {
                    way -= 16;
                }
            }
            for (int k = 1; ; k++) {
                int x = 8 + k * step(way)[0];
                int y = 8 + k * step(way)[1];
                if ((x - 8) * (x - 8) + (y - 8) * (y - 8) > w.field.edge * w.field.edge) {
                    break;
                }
                cells.add(17 * y + x);
            }
        }

        int steps() {
            return cells.size();
        }

        int cell(int k) {
            return cells.get(k - 1);
        }

        int tick(int k) {
            int sum = 0;
            for (int i = 1; i <= k; i++) {
                sum += h.pace;
                if (i >= air) {
                    sum += w.field.slow[cell(i)];
                }
            }
            return sum;
        }

        boolean reaches(int f, int[] stands, int k) {
            return stands[f] != NONE && k >= Math.max(1, air) && far(stands[f], cell(k)) * w.pace[f] <= tick(k);
        }

        int first(int[] stands, int k, int butFor) {
            int best = NONE;
            for (int f = 8; f >= 0; f--) {
                if (f != butFor && reaches(f, stands, k) && (best == NONE
                        || far(stands[f], cell(k)) * w.pace[f] <= far(stands[best], cell(k)) * w.pace[best])) {
                    best = f;
                }
            }
            return best;
        }

        int catcher(int[] stands) {
            return air >= 1 && air <= steps() ? first(stands, air, NONE) : NONE;
        }

        int caught(int[] stands) {
            int c = catcher(stands);
            return c == NONE ? 0 : Math.max(0, w.hands[c] - w.per[c] * far(stands[c], cell(air)));
        }

        int stops(int[] stands, int butFor) {
            for (int k = 1; k <= steps(); k++) {
                if (k > air && first(stands, k, butFor) != NONE) {
                    return k;
                }
            }
            return NONE;
        }

        int stopper(int[] stands, int butFor) {
            int k = stops(stands, butFor);
            return k == NONE ? NONE : first(stands, k, butFor);
        }

        int runs(int[] stands, int butFor) {
            int k = stops(stands, butFor);
            if (k == NONE) {
                return air > steps() ? 6 : 4;
            }
            int f = stopper(stands, butFor);
            return Math.min(3, (tick(k) + w.arm[f] * far(cell(k), 144)) / w.field.run);
        }

        int runs(int[] stands) {
            return runs(stands, catcher(stands));
        }

        int cost(int[] stands) {
            if (catcher(stands) == NONE) {
                return 100 * runs(stands);
            }
            return (100 - caught(stands)) * runs(stands) - w.field.worth * caught(stands);
        }
    }

    static int far(int a, int b) {
        return Math.max(Math.abs(a % 17 - b % 17), Math.abs(a / 17 - b / 17));
    }

    boolean in(int cell) {
        int x = cell % 17 - 8;
        int y = cell / 17 - 8;
        return x * x + y * y <= w.field.edge * w.field.edge;
    }

    Made made(int ball, int hit) {
        return new Made(told(ball, hit), w.kind);
    }

    int hit(int ball, int hit, int what) {
        Hit h = told(ball, hit);
        bad(what >= 0 && what <= 5);
        Made m = made(ball, hit);
        return new int[] {m.way, h.pace, m.air, h.weight, m.steps(), h.seen}[what];
    }

    int tick(int ball, int hit, int step) {
        Made m = made(ball, hit);
        bad(step >= 1 && step <= m.steps());
        return m.tick(step);
    }

    // ---- fielders, batter

    static void fielder(int f) {
        none(f >= 0 && f <= 8);
    }

    void fielder(int f, int pace, int hands, int per, int arm) {
        fielder(f);
        bad(pace >= 1 && pace <= 9 && hands >= 0 && hands <= 100 && per >= 0 && per <= 50 && arm >= 0 && arm <= 9);
        w.pace[f] = pace;
        w.hands[f] = hands;
        w.per[f] = per;
        w.arm[f] = arm;
    }

    int stand(int f, int cell) {
        fielder(f);
        bad(cell >= -1 && cell <= 288);
        int was = w.stand[f];
        w.stand[f] = cell;
        return was;
    }

    int of(int f, int what) {
        fielder(f);
        bad(what >= 0 && what <= 4);
        return new int[] {w.stand[f], w.pace[f], w.hands[f], w.per[f], w.arm[f]}[what];
    }

    int judge() {
        return judge(w.stand);
    }

    int judge(int[] stands) {
        for (int f = 0; f < 9; f++) {
            if (stands[f] == NONE) {
                continue;
            }
            if (!in(stands[f])) {
                return 10 * f + 1;
            }
            if (far(stands[f], 144) < w.field.near) {
                return 10 * f + 2;
            }
            int left = 0;
            boolean taken = false;
            for (int g = 0; g <= f; g++) {
                if (stands[g] != NONE) {
                    taken |= g < f && stands[g] == stands[f];
                    left += stands[g] % 17 < 8 ? 1 : 0;
                }
            }
            if (taken) {
                return 10 * f + 3;
            }
            if (left > w.field.side) {
                return 10 * f + 4;
            }
        }
        return NONE;
    }

    void batter(int kind, int share) {
        bad(kind >= 0 && kind <= 4 && share >= 0 && share <= 100);
        w.kind = kind;
        w.share = share;
    }

    // ---- what comes of a hit

    int catcher(int ball, int hit) {
        return made(ball, hit).catcher(w.stand);
    }

    int caught(int ball, int hit) {
        return made(ball, hit).caught(w.stand);
    }

    int stopper(int ball, int hit) {
        Made m = made(ball, hit);
        return m.stopper(w.stand, m.catcher(w.stand));
    }

    int stops(int ball, int hit) {
        Made m = made(ball, hit);
        return m.stops(w.stand, m.catcher(w.stand));
    }

    int runs(int ball, int hit) {
        return made(ball, hit).runs(w.stand);
    }

    int cost(int ball, int hit) {
        return made(ball, hit).cost(w.stand);
    }

    int all(int ball) {
        return of(ball).stream().mapToInt(h -> h.weight).sum();
    }

    Rat mean(int ball, int[] stands) {
        return mean(ball, stands, w.kind);
    }

    Rat mean(int ball, int[] stands, int kind) {
        if (of(ball).isEmpty()) {
            return null;
        }
        long sum = 0;
        long most = Long.MIN_VALUE;
        for (Hit h : of(ball)) {
            int cost = new Made(h, kind).cost(stands);
            sum += (long) h.weight * cost;
            most = Math.max(most, cost);
        }
        Rat plain = Rat.of(sum, all(ball)).by(Rat.of(100, 1));
        if (kind != 1) {
            return plain;
        }
        return Rat.of(100 - w.share, 100).times(plain).plus(Rat.of(w.share, 100).times(Rat.of(most, 100)));
    }

    boolean tell(Rat r) {
        up = r == null ? BigInteger.ZERO : r.up;
        low = r == null ? BigInteger.ZERO : r.low;
        return r != null;
    }

    boolean mean(int ball) {
        ball(ball);
        return tell(mean(ball, w.stand));
    }

    long upper() {
        return up.longValueExact();
    }

    long lower() {
        return low.longValueExact();
    }

    // ---- where to stand

    int one(int f, int ball) {
        fielder(f);
        ball(ball);
        ill(w.stand[f] != NONE);
        int best = NONE;
        Rat least = null;
        int[] s = w.stand.clone();
        for (int c = 0; c <= 288; c++) {
            s[f] = c;
            if (judge(s) != NONE || of(ball).isEmpty()) {
                continue;
            }
            Rat m = mean(ball, s);
            if (least == null || m.compareTo(least) < 0) {
                least = m;
                best = c;
            }
        }
        return best;
    }

    int settle(int ball, int most) {
        ball(ball);
        bad(most >= 0 && most <= 50);
        int moves = 0;
        boolean moved = true;
        while (moved && moves < most) {
            moved = false;
            for (int f = 0; f < 9 && moves < most; f++) {
                if (w.stand[f] == NONE) {
                    continue;
                }
                int c = one(f, ball);
                if (c == NONE) {
                    continue;
                }
                int[] s = w.stand.clone();
                s[f] = c;
                if (mean(ball, s).compareTo(mean(ball, w.stand)) < 0) {
                    w.stand = s;
                    moved = true;
                    moves++;
                }
            }
        }
        return moves;
    }

    Rat bounded(int ball) {
        if (of(ball).isEmpty()) {
            return null;
        }
        long sum = 0;
        for (Hit h : of(ball)) {
            Made m = new Made(h, w.kind);
            int c = 0;
            int r = m.air > m.steps() ? 6 : 4;
            for (int f = 0; f < 9; f++) {
                for (int cell = 0; cell <= 288 && w.stand[f] != NONE; cell++) {
                    if (!in(cell) || far(cell, 144) < w.field.near) {
                        continue;
                    }
                    int[] alone = new int[9];
                    Arrays.fill(alone, NONE);
                    alone[f] = cell;
                    c = Math.max(c, m.caught(alone));
                    r = Math.min(r, m.runs(alone, NONE));
                }
            }
            sum += (long) h.weight * ((100 - c) * r - w.field.worth * c);
        }
        return Rat.of(sum, all(ball)).by(Rat.of(100, 1));
    }

    boolean bound(int ball) {
        ball(ball);
        return tell(bounded(ball));
    }

    boolean gap(int ball) {
        ball(ball);
        Rat b = bounded(ball);
        return tell(b == null ? null : mean(ball, w.stand).minus(b));
    }

    // ---- ways to stand

    static void wayIs(int i) {
        none(i >= 0 && i <= 3);
    }

    void way(int i, int what) {
        wayIs(i);
        bad(what == 0 || what == 1);
        if (what == 0) {
            w.ways[i] = w.stand.clone();
        } else {
            ill(w.ways[i] != null);
            w.stand = w.ways[i].clone();
        }
    }

    boolean rest(int a, int b, int ball, int what) {
        wayIs(a);
        wayIs(b);
        ball(ball);
        bad(what == 0 || what == 1);
        ill(w.ways[a] != null && w.ways[b] != null);
        List<Hit> hits = of(ball);
        if (hits.isEmpty()) {
            return tell(null);
        }
        List<Rat> shares = new ArrayList<>(List.of(Rat.of(0, 1), Rat.of(1, 1)));
        for (int i = 0; i < hits.size(); i++) {
            for (int j = 0; j < hits.size(); j++) {
                long ai = new Made(hits.get(i), w.kind).cost(w.ways[a]);
                long bi = new Made(hits.get(i), w.kind).cost(w.ways[b]);
                long aj = new Made(hits.get(j), w.kind).cost(w.ways[a]);
                long bj = new Made(hits.get(j), w.kind).cost(w.ways[b]);
                if (ai - bi != aj - bj) {
                    shares.add(Rat.of(bj - bi, ai - bi - aj + bj));
                }
            }
        }
        for (int i = 1; i < 60; i++) {
            shares.add(Rat.of(i, 60));
        }
        Rat best = null;
        Rat value = null;
        for (Rat p : shares) {
            if (p.compareTo(Rat.of(0, 1)) < 0 || p.compareTo(Rat.of(1, 1)) > 0) {
                continue;
            }
            Rat peak = null;
            for (Hit h : hits) {
                Rat one = p.times(Rat.of(new Made(h, w.kind).cost(w.ways[a]), 1)).plus(
                        Rat.of(1, 1).minus(p).times(Rat.of(new Made(h, w.kind).cost(w.ways[b]), 1)));
                peak = peak == null || one.compareTo(peak) > 0 ? one : peak;
            }
            int c = value == null ? -1 : peak.compareTo(value);
            if (c < 0 || c == 0 && p.compareTo(best) < 0) {
                best = p;
                value = peak;
            }
        }
        return tell(what == 0 ? best : value.by(Rat.of(100, 1)));
    }

    int walk(int a, int b) {
        wayIs(a);
        wayIs(b);
        ill(w.ways[a] != null && w.ways[b] != null);
        int[] from = Arrays.stream(w.ways[a]).filter(c -> c != NONE).toArray();
        int[] to = Arrays.stream(w.ways[b]).filter(c -> c != NONE).toArray();
        return from.length != to.length ? NONE : walk(from, to, 0, 0, Integer.MAX_VALUE);
    }

    private int walk(int[] from, int[] to, int who, int sum, int best) {
        if (sum >= best || who == from.length) {
            return Math.min(sum, best);
        }
        int least = best;
        for (int j = who; j < to.length; j++) {
            int c = to[j];
            to[j] = to[who];
            to[who] = c;
            least = walk(from, to, who + 1, sum + far(from[who], c), least);
            to[who] = to[j];
            to[j] = c;
        }
        return least;
    }

    int tells(int a, int b) {
        wayIs(a);
        wayIs(b);
        ill(w.ways[a] != null && w.ways[b] != null);
        int best = NONE;
        Rat most = Rat.of(0, 1);
        for (int ball = 0; ball < 6; ball++) {
            if (of(ball).isEmpty()) {
                continue;
            }
            Rat rise = mean(ball, w.ways[a]).minus(mean(ball, w.ways[b]));
            if (rise.compareTo(most) > 0) {
                most = rise;
                best = ball;
            }
        }
        return best;
    }

    // ---- who bowls, who stands where

    int bowl() {
        int best = NONE;
        for (int ball = 0; ball < 6; ball++) {
            if (!of(ball).isEmpty()
                    && (best == NONE || mean(ball, w.stand).compareTo(mean(best, w.stand)) < 0)) {
                best = ball;
            }
        }
        return best;
    }

    Rat matchedMean;
    int[] matchedOrder;

    int match(int ball, int tray, int n, int i) {
        ball(ball);
        none(tray >= 0 && tray <= 3);
        ill(trays[tray] != null);
        bad(n >= 1 && n <= 6 && i >= 0 && i < n);
        long[] numbers = trays[tray].numbers;
        for (int k = 0; k < Math.min(n, numbers.length); k++) {
            bad(numbers[k] >= 0 && numbers[k] <= 288);
        }
        if (numbers.length < n) {
            throw new IndexOutOfBoundsException();
        }
        matchedMean = null;
        matchedOrder = null;
        if (!of(ball).isEmpty()) {
            orders(ball, numbers, n, new int[n], 0, 0, w.stand.clone());
        }
        return matchedOrder == null ? NONE : matchedOrder[i];
    }

    private void orders(int ball, long[] numbers, int n, int[] order, int f, int used, int[] stands) {
        if (f == n) {
            if (judge(stands) != NONE) {
                return;
            }
            Rat m = mean(ball, stands);
            if (matchedMean == null || m.compareTo(matchedMean) < 0) {
                matchedMean = m;
                matchedOrder = order.clone();
            }
            return;
        }
        for (int p = 0; p < n; p++) {
            if ((used >> p & 1) == 0) {
                order[f] = p;
                stands[f] = (int) numbers[p];
                orders(ball, numbers, n, order, f + 1, used | 1 << p, stands);
            }
        }
    }

    boolean worth(int f, int ball) {
        fielder(f);
        ball(ball);
        ill(w.stand[f] != NONE);
        return change(f, ball, NONE);
    }

    boolean brave(int f, int ball, int cell) {
        fielder(f);
        ball(ball);
        ill(w.stand[f] != NONE);
        bad(cell >= 0 && cell <= 288);
        return change(f, ball, cell);
    }

    private boolean change(int f, int ball, int cell) {
        int[] s = w.stand.clone();
        s[f] = cell;
        Rat m = mean(ball, s);
        return tell(m == null ? null : m.minus(mean(ball, w.stand)));
    }

    boolean both(int ball, int left) {
        ball(ball);
        bad(left >= 0 && left <= 100);
        if (of(ball).isEmpty()) {
            return tell(null);
        }
        return tell(Rat.of(left, 100).times(mean(ball, w.stand, 4))
                .plus(Rat.of(100 - left, 100).times(mean(ball, w.stand, 0))));
    }

    // ---- the book, overs

    int book(int ball, int hit, int many) {
        Hit h = told(ball, hit);
        bad(many >= 0 && many <= 9999);
        h.seen = Math.min(9999, h.seen + many);
        return h.seen;
    }

    int seen(int ball) {
        return of(ball).stream().mapToInt(h -> h.seen).sum();
    }

    int learn(int ball) {
        ball(ball);
        for (Hit h : of(ball)) {
            h.weight = h.seen < 1 ? 1 : h.seen > 99 ? 99 : h.seen;
        }
        return seen(ball);
    }

    static int r(long n) {
        int root = 0;
        while ((root + 1L) * (root + 1L) <= n) {
            root++;
        }
        return 1 + root;
    }

    boolean ends(int ball, int hit, boolean most) {
        Hit h = told(ball, hit);
        if (seen(ball) == 0) {
            return tell(null);
        }
        Rat end = Rat.of(most ? h.seen + r(h.seen) : h.seen - r(h.seen), seen(ball));
        if (end.compareTo(Rat.of(0, 1)) < 0) {
            end = Rat.of(0, 1);
        }
        if (end.compareTo(Rat.of(1, 1)) > 0) {
            end = Rat.of(1, 1);
        }
        return tell(end);
    }

    int enough(int ball, int hit, int hundredths) {
        Hit h = told(ball, hit);
        bad(hundredths >= 1 && hundredths <= 100);
        if (seen(ball) == 0) {
            return NONE;
        }
        for (int k = 1; k <= 100; k++) {
            long all = 0;
            for (Hit o : of(ball)) {
                all += (long) k * o.seen;
            }
            if (Rat.of(2L * r((long) k * h.seen), all).compareTo(Rat.of(hundredths, 100)) <= 0) {
                return k;
            }
        }
        return NONE;
    }

    boolean chase(boolean on) {
        boolean was = w.chase;
        w.chase = on;
        return was;
    }

    int x;

    int draw() {
        x = (int) (1103515245L * x + 12345L);
        return x >>> 16;
    }

    int play(int ball, int n, int seed) {
        ball(ball);
        bad(n >= 1 && n <= 60);
        if (of(ball).isEmpty()) {
            return NONE;
        }
        x = seed;
        int made = 0;
        for (int t = 0; t < n; t++) {
            Made m = drawn(ball);
            w.score[3]++;
            int caught = m.caught(w.stand);
            if (caught > 0 && draw() % 100 < caught) {
                w.score[1]++;
                continue;
            }
            int runs = m.runs(w.stand);
            made += runs;
            w.score[0] += runs;
            if (runs == 4 || runs == 6) {
                w.score[2]++;
                if (w.chase && m.steps() > 0) {
                    chaseTo(m.cell(m.steps()));
                }
            }
        }
        return made;
    }

    private Made drawn(int ball) {
        if (w.kind == 1 && draw() % 100 < w.share) {
            Made best = null;
            for (Hit h : of(ball)) {
                Made m = new Made(h, w.kind);
                if (best == null || m.cost(w.stand) > best.cost(w.stand)) {
                    best = m;
                }
            }
            return best;
        }
        List<Hit> side = new ArrayList<>();
        for (Hit h : of(ball)) {
            for (int i = 0; i < h.weight; i++) {
                side.add(h);
            }
        }
        return new Made(side.get(draw() % side.size()), w.kind);
    }

    private void chaseTo(int cell) {
        int nearest = NONE;
        for (int f = 0; f < 9; f++) {
            if (w.stand[f] != NONE && (nearest == NONE || far(w.stand[f], cell) < far(w.stand[nearest], cell))) {
                nearest = f;
            }
        }
        if (nearest == NONE) {
            return;
        }
        int[] s = w.stand.clone();
        s[nearest] = cell;
        if (judge(s) == NONE) {
            w.stand = s;
        }
    }

    int score(int what) {
        return what < 0 || what > 3 ? NONE : w.score[what];
    }

    // ---- trays, images

    void tray(int tray, int sort, int many) {
        none(tray >= 0 && tray <= 3);
        bad(sort >= 0 && sort <= 3 && many >= 0 && many <= 40);
        trays[tray] = new Row();
        trays[tray].sort = sort;
        trays[tray].numbers = new long[many];
    }

    long write(int tray, int place, long v) {
        none(tray >= 0 && tray <= 3);
        ill(trays[tray] != null);
        if (place < 0 || place >= trays[tray].numbers.length) {
            throw new IndexOutOfBoundsException();
        }
        int unused = 64 - (8 << trays[tray].sort);
        trays[tray].numbers[place] = v << unused >> unused;
        return trays[tray].numbers[place];
    }

    int pour(int tray) {
        none(tray >= 0 && tray <= 3);
        ill(trays[tray] != null);
        long[] numbers = trays[tray].numbers;
        bad(numbers.length <= 9);
        for (long n : numbers) {
            bad(n >= -1 && n <= 288);
        }
        for (int f = 0; f < numbers.length; f++) {
            w.stand[f] = (int) numbers[f];
        }
        return numbers.length;
    }

    void image(int i) {
        none(i >= 0 && i <= 2);
        images[i] = w.copy();
    }

    void restore(int i) {
        none(i >= 0 && i <= 2);
        ill(images[i] != null);
        w = images[i].copy();
    }

    int count(int what) {
        if (what >= 100 && what <= 388) {
            return w.field.slow[what - 100];
        }
        int there = 0;
        int kept = 0;
        for (int s : w.stand) {
            there += s == NONE ? 0 : 1;
        }
        for (int i = 0; i < 4; i++) {
            kept += w.ways[i] == null ? 0 : 1 << i;
        }
        int[] answers = {w.field.lines, w.field.edge, w.field.run, w.field.worth, w.field.side, w.field.near, there,
            tape.length(), w.kind, w.share, w.chase ? 1 : 0, kept};
        return what < 0 || what > 11 ? NONE : answers[what];
    }
}
