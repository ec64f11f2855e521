import java.util.Arrays;

/**
 * Children at the rail of a bath and one teacher who holds, fingers, lets go
 * or has another one show it. The words in capitals are those of DOC.md.
 *
 * Questions are answered on trial rails that the constructor makes, because a
 * run of calls has one small room for all; only was makes a few KINDS to ask.
 */
public final class HandUnderTheChin {
    private static final int MOST_CHILDREN = 6;
    private static final int MOST_TRUST = 20;
    private static final int MOST_COLD = 20;
    private static final int SWIMS = 7;
    private static final int LAST_MINUTE = 999;
    private static final int MOST_WEEKS = 9;
    private static final int MOST_KIND = 7;
    private static final int MOST_FIGURE = 9;

    private static final int HELD = 0;
    private static final int FINGERED = 1;
    private static final int LET = 2;
    private static final int SHOWN = 3;

    private static final int SHELVES = 8;
    private static final int BYTES = 0;
    private static final int SHORTS = 1;
    private static final int INTS = 2;
    private static final int MOST_ELEMENTS = 100;
    private static final int WELL_SHAPED = -1;
    private static final int NO_LETTER = -1;

    private static final int NO_SUCH = -1;
    private static final int NO_ROOM = -2;
    private static final int NOT_SO = -3;
    private static final int NONE = -4;
    private static final int NOTHING_HELD = -11;
    private static final int OTHER_KIND = -12;
    private static final int NO_PLACE = -13;
    private static final int BELOW_ZERO = -14;
    private static final int NO_FAILURE = -15;
    private static final long NO_SUCH_LONG = 1000000001L;
    private static final int MISSHAPEN_TEXT = -1000;
    private static final int FALSE_STATEMENT = -2000;

    private static final int MOST_ALONE = 60;
    private static final int MOST_TURNS = 99;
    private static final int MOST_AHEAD = 3;
    private static final int TRUSTS = MOST_TRUST + 1;
    private static final int UNSEEN = -1;

    private final Rail now;
    private final Rail imaged;
    private boolean hasImage;
    private final Rail[] trials = new Rail[MOST_AHEAD];
    private final Pupil walker;
    private final Pupil ahead;
    private final int[] minutesTo = new int[TRUSTS * (SWIMS + 1)];
    private final int[] queue = new int[TRUSTS * (SWIMS + 1)];
    private final int[] order = new int[MOST_CHILDREN];
    private final int[] bestOrder = new int[MOST_CHILDREN];
    private int bestSum;
    private final Child[] kinds = new Child[SHELVES];
    private final Row[] rows = new Row[SHELVES];

    public HandUnderTheChin() {
        Child plain = new Child(0);
        now = new Rail(plain);
        imaged = new Rail(plain);
        for (int i = 0; i < trials.length; i++) {
            trials[i] = new Rail(plain);
        }
        walker = new Pupil(plain);
        ahead = new Pupil(plain);
    }

    // ---- the bath as told

    public int bath(int d) {
        Row text = rowOn(d);
        if (text == null) {
            return whyNot(d);
        }
        if (text.sort != BYTES) {
            return OTHER_KIND;
        }
        int fault = text.misshapenAt();
        if (fault != WELL_SHAPED) {
            return MISSHAPEN_TEXT - fault;
        }
        Rail trial = fromNow();
        int told = 0;
        for (int at = 0; at < text.size(); at += Row.digitsBehind(text.at(at)) + 2) {
            if (!trial.obeys(text, at)) {
                return FALSE_STATEMENT - at;
            }
            told++;
        }
        now.setTo(trial);
        return told;
    }

    public int child(int c, int what) {
        if (!now.has(c)) {
            return NO_SUCH;
        }
        Pupil one = now.pupils[c];
        switch (what) {
            case 0: return one.kind.number;
            case 1: return one.kind.figure;
            case 2: return one.trust;
            case 3: return one.step;
            case 4: return one.cold;
            case 5: return one.kind.holds;
            case 6: return one.needs();
            case 7: return one.kind.fright;
            case 8: return one.kind.bears;
            case 9: return one.kind.passes;
            default: return NO_SUCH;
        }
    }

    public int comes(int d, int trust) {
        if (!isShelf(d) || !within(trust, 0, MOST_TRUST)) {
            return NO_SUCH;
        }
        Child kind = kindOn(d);
        if (kind == null) {
            return whyNot(d);
        }
        if (!now.hasRoom()) {
            return NO_ROOM;
        }
        now.add(kind, trust);
        return now.size - 1;
    }

    public int feels(int c, int what, int v) {
        if (!now.has(c)) {
            return NO_SUCH;
        }
        Pupil one = now.pupils[c];
        int before = what == 0 ? one.trust : one.step;
        if (what == 0 && within(v, 0, MOST_TRUST)) {
            one.trust = v;
            return before;
        }
        if (what == 1 && within(v, 0, SWIMS)) {
            one.step = v;
            return before;
        }
        return NO_SUCH;
    }

    public int minute(int c, int way) {
        if (!now.has(c) || !within(way, HELD, SHOWN)) {
            return NO_SUCH;
        }
        if (now.pupils[c].swims() || now.minute >= LAST_MINUTE) {
            return NOT_SO;
        }
        now.take(c, way);
        return now.pupils[c].trust;
    }

    public int change(int a, int b) {
        if (!now.hasTwo(a, b)) {
            return NO_SUCH;
        }
        now.swap(a, b);
        return 1;
    }

    public int rest(int weeks) {
        if (!within(weeks, 0, MOST_WEEKS)) {
            return NO_SUCH;
        }
        now.pause(weeks);
        return now.allSteps();
    }

    // ---- who can be let go

    public int ready() {
        return now.readyBits();
    }

    public int alone(int c, int what) {
        if (!now.has(c) || !within(what, 0, 1)) {
            return NO_SUCH;
        }
        int fewest = fewestAlone(now.pupils[c], HELD);
        return what == 0 ? fewest : firstWayAlone(now.pupils[c], fewest);
    }

    public int neverHeld(int c) {
        return now.has(c) ? fewestAlone(now.pupils[c], FINGERED) : NO_SUCH;
    }

    public int mostSteps(int n, int what) {
        if (!within(n, 0, MOST_AHEAD) || !within(what, 0, 1)) {
            return NO_SUCH;
        }
        fromNow();
        int most = mostFrom(0, n);
        return what == 0 ? most : firstMinuteTo(most, n);
    }

    public int byTurns(int n, int what) {
        if (!within(n, 0, MOST_TURNS) || !within(what, 0, 1)) {
            return NO_SUCH;
        }
        Rail trial = fromNow();
        int held = 0;
        for (int i = 0; i < n; i++) {
            if (trial.takeTurn() == HELD) {
                held++;
            }
        }
        return what == 0 ? Integer.bitCount(trial.swimBits()) : held;
    }

    public int allSwim() {
        Rail trial = fromNow();
        for (int minutes = 0; minutes <= MOST_TURNS; minutes++) {
            if (trial.takeTurn() == NONE) {
                return minutes;
            }
        }
        return NONE;
    }

    // ---- beside one another

    public int beside(int i) {
        if (i < -1 || i >= now.size) {
            return NO_SUCH;
        }
        bestSum = -1;
        arrange(0, 0, 0);
        return i < 0 ? bestSum : bestOrder[i];
    }

    public int helps() {
        int most = -1;
        int best = NONE;
        for (int c = 0; c < now.size; c++) {
            Pupil one = now.pupils[c];
            int gain = one.kind.passes * now.neighbours(c);
            if (one.isReady() && gain > most) {
                most = gain;
                best = c;
            }
        }
        return best;
    }

    public int costs(int c) {
        if (!now.has(c)) {
            return NO_SUCH;
        }
        int before = fewestAlone(now.pupils[c], HELD);
        if (before == NONE) {
            return NONE;
        }
        ahead.setTo(now.pupils[c]);
        ahead.gain(-ahead.kind.fright);
        int behind = fewestAlone(ahead, HELD);
        return (behind == NONE ? MOST_ALONE : behind) - before;
    }

    public int bands(int c, int a, int v) {
        if (!now.has(c) || !within(a, 0, 9) || !within(v, 1, 9)) {
            return NO_SUCH;
        }
        Pupil one = now.pupils[c];
        if (one.swims()) {
            return NOT_SO;
        }
        for (int week = 0; week <= a; week++) {
            int air = Math.max(0, a - week * v);
            int trust = Math.min(MOST_TRUST, one.trust + week);
            if (trust < Math.max(0, one.needs() - air)) {
                return week;
            }
            if (air == 0) {
                return NONE;
            }
        }
        return NONE;
    }

    public long frights(int c, int n, int k, int t, int part) {
        if (!now.has(c) || !within(n, 0, 8) || !within(k, 0, SWIMS)
                || !within(t, 2, 20) || !within(part, 0, 1)) {
            return NO_SUCH_LONG;
        }
        Pupil one = now.pupils[c];
        long all = 1;
        for (int i = 0; i < n; i++) {
            all *= t;
        }
        long good = outcomes(one.kind, one.trust, one.step, one.step + k, n, t);
        return inLeastTerms(good, all, part);
    }

    public int was(int d, int v, int f, int what) {
        if (!isShelf(d) || !within(v, 0, MOST_TRUST) || !within(f, 0, MOST_FIGURE)
                || !within(what, 0, 1)) {
            return NO_SUCH;
        }
        Row told = rowOn(d);
        if (told == null) {
            return whyNot(d);
        }
        int bits = 0;
        for (int k = 0; k <= MOST_KIND; k++) {
            if (tellsHolding(told, v, Child.of(k, f).holds)) {
                bits |= 1 << k;
            }
        }
        return what == 0 ? bits : Integer.bitCount(bits);
    }

    public int dare(int a, int b) {
        if (!now.hasTwo(a, b)) {
            return NO_SUCH;
        }
        for (int one = 0; one <= 1; one++) {
            for (int other = 0; other <= 1; other++) {
                if (staysWith(now.pupils[a], one, other) && staysWith(now.pupils[b], other, one)) {
                    return 10 * one + other;
                }
            }
        }
        return NONE;
    }

    public int group(int h, int what) {
        if (!within(h, 0, 30) || !within(what, 0, 1)) {
            return NO_SUCH;
        }
        int best = 0;
        for (int bits = 1; bits < 1 << now.size; bits++) {
            if (Integer.bitCount(bits) > Integer.bitCount(best) && now.holdsOf(bits) <= h) {
                best = bits;
            }
        }
        return what == 0 ? best : Integer.bitCount(best);
    }

    public int forget() {
        for (int weeks = 0; weeks <= MOST_WEEKS; weeks++) {
            Rail trial = fromNow();
            trial.pause(weeks);
            if (trial.readyBits() == 0) {
                return weeks;
            }
        }
        return NONE;
    }

    public int coldest(int c, int n) {
        if (!now.has(c) || !within(n, 0, 60)) {
            return NO_SUCH;
        }
        int colder = 0;
        for (int o = 0; o < now.size; o++) {
            Pupil other = now.pupils[o];
            if (o != c && !other.swims() && Math.min(MOST_COLD, other.cold + n) > other.kind.bears) {
                colder++;
            }
        }
        return colder;
    }

    public int last() {
        int least = NONE;
        for (int c = 0; c < now.size; c++) {
            if (least == NONE || now.pupils[c].isBehind(now.pupils[least])) {
                least = c;
            }
        }
        return least;
    }

    public long mean(int part) {
        if (!within(part, 0, 1)) {
            return NO_SUCH_LONG;
        }
        return inLeastTerms(now.allSteps(), Math.max(1, now.size), part);
    }

    // ---- told minutes

    public int forged(int d) {
        Row told = rowOn(d);
        if (told == null) {
            return whyNot(d);
        }
        if (told.size() % 2 != 0) {
            return NO_PLACE;
        }
        Rail trial = fromNow();
        for (int pair = 0; pair < told.size() / 2; pair++) {
            int c = told.at(2 * pair);
            int way = told.at(2 * pair + 1);
            if (!trial.canTake(c, way)) {
                return pair;
            }
            trial.take(c, way);
        }
        return NONE;
    }

    public int judge(int d, int c) {
        if (!isShelf(d) || !now.has(c)) {
            return NO_SUCH;
        }
        Row told = rowOn(d);
        if (told == null) {
            return whyNot(d);
        }
        Rail trial = fromNow();
        for (int i = 0; i < told.size(); i++) {
            if (told.at(i) != told.least() && told.at(i) != trial.pupils[c].trust) {
                return i;
            }
            trial.takeTurn();
        }
        return NONE;
    }

    public int weeks(int n, int z, int what) {
        if (!within(n, 1, 20) || !within(what, 0, 1)) {
            return NO_SUCH;
        }
        if (now.size == 0) {
            return NOT_SO;
        }
        int seed = z;
        int steps = 0;
        int swallows = 0;
        for (int week = 0; week < n; week++) {
            Rail trial = fromNow();
            for (int i = 0; i < 10; i++) {
                seed = seedBehind(seed);
                int c = below(now.size, seed);
                seed = seedBehind(seed);
                int way = below(SHOWN + 1, seed);
                if (trial.canTake(c, way) && trial.take(c, way)) {
                    swallows++;
                }
            }
            steps += trial.allSteps() - now.allSteps();
        }
        return what == 0 ? steps : swallows;
    }

    // ---- the image, what is told

    public int image() {
        imaged.setTo(now);
        hasImage = true;
        return now.minute;
    }

    public int restore() {
        if (!hasImage) {
            return NOT_SO;
        }
        now.setTo(imaged);
        return now.minute;
    }

    public int count(int what) {
        switch (what) {
            case 0: return now.size;
            case 1: return now.minute;
            case 2: return now.allTrust();
            case 3: return now.allSteps();
            case 4: return now.allCold();
            case 5: return now.swimBits();
            default: return NO_SUCH;
        }
    }

    // ---- shelves

    public int keep(int d, int what, int k, int figure) {
        if (!isShelf(d) || !within(what, 0, 1)) {
            return NO_SUCH;
        }
        if (what == 1 && !(within(k, 0, MOST_KIND) && within(figure, 0, MOST_FIGURE))) {
            return NO_SUCH;
        }
        rows[d] = null;
        kinds[d] = what == 0 ? null : Child.of(k, figure);
        return 0;
    }

    public int row(int d, int sort, int n) {
        if (!isShelf(d) || !within(sort, BYTES, INTS) || n > MOST_ELEMENTS) {
            return NO_SUCH;
        }
        if (n < 0) {
            return BELOW_ZERO;
        }
        kinds[d] = null;
        rows[d] = new Row(sort, n);
        return 0;
    }

    public int put(int d, int i, int v) {
        Row row = rowOn(d);
        if (row == null) {
            return whyNot(d);
        }
        if (!row.has(i)) {
            return NO_PLACE;
        }
        row.set(i, v);
        return 0;
    }

    public long element(int d, int i) throws IllegalArgumentException, IllegalStateException {
        if (!isShelf(d)) {
            throw new IllegalArgumentException("no such shelf");
        }
        Row row = rowOn(d);
        if (row == null) {
            throw new IllegalStateException("no row");
        }
        if (!row.has(i)) {
            throw new IllegalStateException("no such place");
        }
        return row.at(i);
    }

    public int copy(int d, int i, int e, int j, int n) {
        if (!isShelf(d) || !isShelf(e)) {
            return NO_SUCH;
        }
        if (isEmpty(d) || isEmpty(e)) {
            return NOTHING_HELD;
        }
        Row from = rowOn(d);
        Row to = rowOn(e);
        if (from == null || to == null || from.sort != to.sort) {
            return OTHER_KIND;
        }
        if (!from.hasPart(i, n) || !to.hasPart(j, n)) {
            return NO_PLACE;
        }
        System.arraycopy(from.elements, i, to.elements, j, n);
        return n;
    }

    public int cost(int d) {
        Child kind = kindOn(d);
        return kind == null ? whyNot(d) : kind.price;
    }

    public int toss(int d) {
        Child kind = kindOn(d);
        if (kind == null) {
            return whyNot(d);
        }
        try {
            kind.fail();
        } catch (IllegalArgumentException diver) {
            return 200 + kind.price;
        } catch (UnsupportedOperationException bold) {
            return 100 + kind.figure;
        } catch (IllegalStateException plain) {
            return kind.figure;
        }
        return NO_FAILURE;
    }

    // ---- what the calls share

    private static boolean within(int v, int least, int most) {
        return v >= least && v <= most;
    }

    private static boolean isShelf(int d) {
        return within(d, 0, SHELVES - 1);
    }

    private boolean isEmpty(int d) {
        return rowOn(d) == null && kindOn(d) == null;
    }

    private Row rowOn(int d) {
        return isShelf(d) ? rows[d] : null;
    }

    private Child kindOn(int d) {
        return isShelf(d) ? kinds[d] : null;
    }

    /** The refusal where what a call wants is not on SHELF d. */
    private int whyNot(int d) {
        if (!isShelf(d)) {
            return NO_SUCH;
        }
        return isEmpty(d) ? NOTHING_HELD : OTHER_KIND;
    }

    private Rail fromNow() {
        trials[0].setTo(now);
        return trials[0];
    }

    /** By breadth, so that the first way to swim that is met is a shortest one. */
    private int fewestAlone(Pupil one, int firstWay) {
        Arrays.fill(minutesTo, UNSEEN);
        int end = reach(stateOf(one), 0, 0);
        for (int i = 0; i < end && i < queue.length; i++) {
            int at = queue[i];
            int minutes = minutesTo[at];
            if (at / TRUSTS == SWIMS) {
                return minutes <= MOST_ALONE ? minutes : NONE;
            }
            for (int way = firstWay; way <= LET; way++) {
                walker.kind = one.kind;
                walker.trust = at % TRUSTS;
                walker.step = at / TRUSTS;
                walker.meets(way);
                end = reach(stateOf(walker), minutes + 1, end);
            }
        }
        return NONE;
    }

    /** Puts a state that is still unseen, and is one, at the end of the queue: the end behind it. */
    private int reach(int state, int minutes, int end) {
        if (!within(state, 0, minutesTo.length - 1) || !within(end, 0, queue.length - 1)
                || minutesTo[state] != UNSEEN) {
            return end;
        }
        minutesTo[state] = minutes;
        queue[end] = state;
        return end + 1;
    }

    private static int stateOf(Pupil one) {
        return one.step * TRUSTS + one.trust;
    }

    private int firstWayAlone(Pupil one, int fewest) {
        for (int way = HELD; way <= LET && fewest > 0; way++) {
            ahead.setTo(one);
            ahead.meets(way);
            if (fewestAlone(ahead, HELD) == fewest - 1) {
                return way;
            }
        }
        return NONE;
    }

    /** The last MINUTE is not tried out: it brings 1 STEP or none. */
    private int mostFrom(int level, int left) {
        Rail from = trials[level];
        int most = from.allSteps();
        if (left <= 1 || level + 1 >= trials.length) {
            return left >= 1 && from.anyCanStep() ? most + 1 : most;
        }
        Rail next = trials[level + 1];
        for (int c = 0; c < from.size; c++) {
            for (int way = HELD; way <= LET; way++) {
                if (from.canTake(c, way)) {
                    next.setTo(from);
                    next.take(c, way);
                    most = Math.max(most, mostFrom(level + 1, left - 1));
                }
            }
        }
        return most;
    }

    private int firstMinuteTo(int most, int n) {
        for (int c = 0; c < now.size && n > 0; c++) {
            for (int way = HELD; way <= LET; way++) {
                if (now.canTake(c, way)) {
                    fromNow().take(c, way);
                    if (mostFrom(0, n - 1) == most) {
                        return 10 * c + way;
                    }
                }
            }
        }
        return NONE;
    }

    /** Orders come by numbers, so only a greater sum may take the place of the best. */
    private void arrange(int place, int used, int sum) {
        if (place >= now.size) {
            if (sum > bestSum) {
                bestSum = sum;
                System.arraycopy(order, 0, bestOrder, 0, now.size);
            }
            return;
        }
        for (int c = 0; c < now.size; c++) {
            if ((used & 1 << c) == 0) {
                order[place] = c;
                int more = place == 0 ? 0 : passesOf(order[place - 1]) * passesOf(c);
                arrange(place + 1, used | 1 << c, sum + more);
            }
        }
    }

    private int passesOf(int c) {
        return now.pupils[c].kind.passes;
    }

    /** Of the t to the power of lets outcomes those with STEP goal or more; lets is 8 at most. */
    private static long outcomes(Child kind, int trust, int step, int goal, int lets, int t) {
        if (lets <= 0) {
            return step >= goal ? 1 : 0;
        }
        if (step >= SWIMS) {
            return t * outcomes(kind, trust, step, goal, lets - 1, t);
        }
        int frightened = Math.max(0, trust - kind.fright);
        long swallowed = outcomes(kind, frightened, step, goal, lets - 1, t);
        if (trust < kind.needsAt(step)) {
            return t * swallowed;
        }
        return swallowed + (t - 1) * outcomes(kind, trust, step + 1, goal, lets - 1, t);
    }

    private static long inLeastTerms(long above, long below, int part) {
        long a = below;
        long b = above;
        for (int i = 0; i < 100 && b != 0; i++) {
            long rest = a % b;
            a = b;
            b = rest;
        }
        if (a == 0) {
            return NO_SUCH_LONG;
        }
        return part == 0 ? above / a : below / a;
    }

    private static boolean tellsHolding(Row told, int v, int holds) {
        for (int i = 0; i < told.size(); i++) {
            if (told.at(i) != Math.min(MOST_TRUST, v + i * holds)) {
                return false;
            }
        }
        return true;
    }

    private static boolean staysWith(Pupil one, int own, int others) {
        return daring(one, own, others) >= daring(one, 1 - own, others);
    }

    private static int daring(Pupil one, int own, int others) {
        if (own == 0) {
            return -others;
        }
        return 1 + others - (one.swims() || one.isReady() ? 0 : one.kind.fright);
    }

    private static int seedBehind(int z) {
        return z * 1103515245 + 12345;
    }

    private static int below(int n, int z) {
        return n <= 0 ? 0 : (z & 0x7fffffff) / 65536 % n;
    }

    // ---- the KINDS: each constructor tells how a KIND differs from the one it is under

    private static class Child {
        final int figure;
        int number;
        int holds;
        int fright;
        int bears;
        int passes;
        int price;
        /** One number a STEP; the last stays 0, because who SWIMS needs nothing. */
        final int[] needs = new int[SWIMS + 1];

        Child(int figure) {
            this.figure = figure;
            number = 0;
            holds = 2;
            fright = 3;
            bears = 5;
            passes = 1;
            price = 5;
            for (int s = 0; s < SWIMS; s++) {
                needs[s] = s + 4;
            }
        }

        static Child of(int k, int figure) {
            switch (k) {
                case 1: return new Bold(figure);
                case 2: return new Shy(figure);
                case 3: return new Twin(figure);
                case 4: return new Pusher(figure);
                case 5: return new Laugher(figure);
                case 6: return new Clinger(figure);
                case 7: return new Diver(figure);
                default: return new Child(figure);
            }
        }

        final int needsAt(int step) {
            return step >= 0 && step < needs.length ? needs[step] : 0;
        }

        /** Throws the FAILURE, if there is one; toss tells it by its class. */
        void fail() {
            if (figure != 0) {
                throw new IllegalStateException("a child fails");
            }
        }
    }

    private static class Bold extends Child {
        Bold(int figure) {
            super(figure);
            number = 1;
            holds -= 1;
            fright -= 1;
            bears += figure;
            price += figure;
            for (int s = 0; s < SWIMS; s++) {
                needs[s] -= 2;
            }
        }

        @Override
        void fail() {
            if (figure != 0) {
                throw new UnsupportedOperationException("a bold one fails");
            }
        }
    }

    private static class Shy extends Child {
        Shy(int figure) {
            super(figure);
            number = 2;
            holds += 1;
            fright += figure / 2;
            bears -= 1;
            passes = 0;
            price -= 2;
            for (int s = 0; s < SWIMS; s++) {
                needs[s] *= 2;
            }
        }

        @Override
        void fail() {
            // Shy ones have no FAILURE.
        }
    }

    private static final class Twin extends Child {
        Twin(int figure) {
            super(figure);
            number = 3;
            holds = 3;
            price *= 2;
            for (int s = 0; s < SWIMS; s++) {
                needs[s] += figure / 4;
            }
        }

        @Override
        void fail() {
            // Twins have no FAILURE.
        }
    }

    private static final class Pusher extends Bold {
        Pusher(int figure) {
            super(figure);
            number = 4;
            fright = 0;
            passes += 1;
            price -= 1;
        }
    }

    private static final class Laugher extends Bold {
        Laugher(int figure) {
            super(figure);
            number = 5;
            passes += 2;
            price += 4;
        }
    }

    private static final class Clinger extends Shy {
        Clinger(int figure) {
            super(figure);
            number = 6;
            holds += figure / 3;
            fright *= 2;
            price += figure;
            for (int s = 0; s < SWIMS; s++) {
                needs[s] -= 1;
            }
        }
    }

    private static final class Diver extends Bold {
        Diver(int figure) {
            super(figure);
            number = 7;
            bears = 20;
            price /= 2;
            for (int s = 0; s < SWIMS; s++) {
                needs[s] /= 2;
            }
        }

        @Override
        void fail() {
            if (figure != 0) {
                throw new IllegalArgumentException("a diver fails");
            }
        }
    }

    /** One at the rail. */
    private static final class Pupil {
        Child kind;
        int trust;
        int step;
        int cold;

        Pupil(Child kind) {
            this.kind = kind;
        }

        void setTo(Pupil other) {
            kind = other.kind;
            trust = other.trust;
            step = other.step;
            cold = other.cold;
        }

        boolean swims() {
            return step >= SWIMS;
        }

        int needs() {
            return kind.needsAt(step);
        }

        boolean isReady() {
            return !swims() && trust >= kind.needsAt(step);
        }

        boolean isBehind(Pupil other) {
            return step < other.step || step == other.step && trust < other.trust;
        }

        void gain(int more) {
            trust = Math.max(0, Math.min(MOST_TRUST, trust + more));
        }

        int trustByFinger() {
            return Math.min(MOST_TRUST, trust + kind.holds / 2 + 1);
        }

        boolean stepsByFinger() {
            return !swims() && trustByFinger() >= kind.needsAt(step) + 3;
        }

        /** Its own part of a MINUTE by HELD, FINGERED or LET: whether it SWALLOWS. */
        boolean meets(int way) {
            boolean steps = way == LET ? isReady() : way == FINGERED && stepsByFinger();
            if (way == HELD) {
                gain(kind.holds);
            } else if (way == FINGERED) {
                trust = trustByFinger();
            } else if (!steps) {
                gain(-kind.fright);
            }
            if (steps) {
                step++;
            }
            return way == LET && !steps;
        }

        void getsColder() {
            cold = Math.min(MOST_COLD, cold + 1);
            if (cold > kind.bears) {
                gain(-1);
                cold = 0;
            }
        }

        void pauses(int weeks) {
            if (!swims()) {
                step = Math.max(0, step - weeks / 3);
            }
            gain(-weeks);
            cold = 0;
        }
    }

    /** All who stand at the rail, and the MINUTE. */
    private static final class Rail {
        final Pupil[] pupils = new Pupil[MOST_CHILDREN];
        final Pupil aside;
        int size;
        int minute;
        int turn;

        Rail(Child plain) {
            for (int c = 0; c < pupils.length; c++) {
                pupils[c] = new Pupil(plain);
            }
            aside = new Pupil(plain);
        }

        /** BY TURNS always begins with 0, so the turn is not taken over. */
        void setTo(Rail other) {
            for (int c = 0; c < other.size; c++) {
                pupils[c].setTo(other.pupils[c]);
            }
            size = other.size;
            minute = other.minute;
            turn = 0;
        }

        boolean has(int c) {
            return within(c, 0, size - 1);
        }

        boolean hasTwo(int a, int b) {
            return has(a) && has(b) && a != b;
        }

        boolean hasRoom() {
            return size < pupils.length;
        }

        boolean canTake(int c, int way) {
            return has(c) && !pupils[c].swims() && within(way, HELD, SHOWN);
        }

        void add(Child kind, int trust) {
            Pupil one = pupils[size];
            one.kind = kind;
            one.trust = trust;
            one.step = 0;
            one.cold = 0;
            size++;
        }

        void swap(int a, int b) {
            aside.setTo(pupils[a]);
            pupils[a].setTo(pupils[b]);
            pupils[b].setTo(aside);
        }

        void pause(int weeks) {
            for (int c = 0; c < size; c++) {
                pupils[c].pauses(weeks);
            }
        }

        /** A MINUTE with one that can be taken: whether it is a SWALLOW. */
        boolean take(int c, int way) {
            Pupil one = pupils[c];
            boolean swallows = false;
            if (way == SHOWN) {
                one.gain(shownTo(c));
            } else {
                swallows = one.meets(way);
            }
            if (way == LET) {
                passOn(c, swallows ? -one.kind.passes : one.kind.passes);
            }
            for (int o = 0; o < size; o++) {
                if (o != c && !pupils[o].swims()) {
                    pupils[o].getsColder();
                }
            }
            minute++;
            return swallows;
        }

        private int shownTo(int c) {
            int gain = 0;
            for (int o = 0; o < size; o++) {
                if (pupils[o].step > pupils[c].step) {
                    gain = Math.max(gain, Math.abs(o - c) == 1 ? 2 : 1);
                }
            }
            return gain;
        }

        private void passOn(int c, int much) {
            if (has(c - 1)) {
                pupils[c - 1].gain(much);
            }
            if (has(c + 1)) {
                pupils[c + 1].gain(much);
            }
        }

        int neighbours(int c) {
            return (has(c - 1) ? 1 : 0) + (has(c + 1) ? 1 : 0);
        }

        /** The next MINUTE of BY TURNS: its WAY; NONE, if all SWIM. */
        int takeTurn() {
            for (int passed = 0; passed < size; passed++) {
                int c = (turn + passed) % size;
                if (!pupils[c].swims()) {
                    int way = pupils[c].isReady() ? LET : HELD;
                    take(c, way);
                    turn = c + 1;
                    return way;
                }
            }
            return NONE;
        }

        /** Does the STATEMENT whose letter is at a place of a well shaped text: whether it can be done. */
        boolean obeys(Row text, int at) {
            int one = text.number(at + 1, 1);
            int two = text.number(at + 2, 1);
            switch (text.at(at)) {
                case 'c': return obeysCome(one, two, text.number(at + 3, 2));
                case 'm': return obeysMinute(one, two);
                case 'b': pause(one); return true;
                case 'x': return obeysChange(one, two);
                case 't': return obeysTrust(one, text.number(at + 2, 2));
                default: return obeysStep(one, two);
            }
        }

        private boolean obeysCome(int k, int figure, int trust) {
            if (!hasRoom() || k > MOST_KIND || trust > MOST_TRUST) {
                return false;
            }
            add(Child.of(k, figure), trust);
            return true;
        }

        private boolean obeysMinute(int c, int way) {
            if (!canTake(c, way) || minute >= LAST_MINUTE) {
                return false;
            }
            take(c, way);
            return true;
        }

        private boolean obeysChange(int a, int b) {
            if (!hasTwo(a, b)) {
                return false;
            }
            swap(a, b);
            return true;
        }

        private boolean obeysTrust(int c, int trust) {
            if (!has(c) || trust > MOST_TRUST) {
                return false;
            }
            pupils[c].trust = trust;
            return true;
        }

        private boolean obeysStep(int c, int step) {
            if (!has(c) || step > SWIMS) {
                return false;
            }
            pupils[c].step = step;
            return true;
        }

        boolean anyCanStep() {
            for (int c = 0; c < size; c++) {
                if (pupils[c].isReady() || pupils[c].stepsByFinger()) {
                    return true;
                }
            }
            return false;
        }

        int readyBits() {
            int bits = 0;
            for (int c = 0; c < size; c++) {
                bits |= pupils[c].isReady() ? 1 << c : 0;
            }
            return bits;
        }

        int swimBits() {
            int bits = 0;
            for (int c = 0; c < size; c++) {
                bits |= pupils[c].swims() ? 1 << c : 0;
            }
            return bits;
        }

        int holdsOf(int bits) {
            int sum = 0;
            for (int c = 0; c < size; c++) {
                sum += (bits & 1 << c) != 0 ? pupils[c].kind.holds : 0;
            }
            return sum;
        }

        int allTrust() {
            int sum = 0;
            for (int c = 0; c < size; c++) {
                sum += pupils[c].trust;
            }
            return sum;
        }

        int allSteps() {
            int sum = 0;
            for (int c = 0; c < size; c++) {
                sum += pupils[c].step;
            }
            return sum;
        }

        int allCold() {
            int sum = 0;
            for (int c = 0; c < size; c++) {
                sum += pupils[c].cold;
            }
            return sum;
        }
    }

    /** A ROW; its elements are held as ints, cut to the SORT when they are put in. */
    private static final class Row {
        final int sort;
        final int[] elements;

        Row(int sort, int n) {
            this.sort = sort;
            elements = new int[Math.max(0, n)];
        }

        int size() {
            return elements.length;
        }

        boolean has(int i) {
            return within(i, 0, elements.length - 1);
        }

        /** Not i + n, which could run over. */
        boolean hasPart(int i, int n) {
            return i >= 0 && n >= 0 && i <= elements.length && n <= elements.length - i;
        }

        int at(int i) {
            return has(i) ? elements[i] : 0;
        }

        void set(int i, int v) {
            if (has(i)) {
                elements[i] = sort == BYTES ? (byte) v : sort == SHORTS ? (short) v : v;
            }
        }

        int least() {
            return sort == BYTES ? -128 : sort == SHORTS ? -32768 : -2147483648;
        }

        static int digitsBehind(int letter) {
            switch (letter) {
                case 'c': return 4;
                case 't': return 3;
                case 'm':
                case 'x':
                case 's': return 2;
                case 'b': return 1;
                default: return NO_LETTER;
            }
        }

        /** The first place with which no text can go on, the size, if something lacks; or WELL_SHAPED. */
        int misshapenAt() {
            int due = NO_LETTER;
            for (int i = 0; i < elements.length; i++) {
                int sign = elements[i];
                if (due == NO_LETTER) {
                    due = digitsBehind(sign);
                    if (due == NO_LETTER) {
                        return i;
                    }
                } else if (due > 0) {
                    if (!within(sign, '0', '9')) {
                        return i;
                    }
                    due--;
                } else {
                    if (sign != ';') {
                        return i;
                    }
                    due = NO_LETTER;
                }
            }
            return due == NO_LETTER && elements.length > 0 ? WELL_SHAPED : elements.length;
        }

        int number(int from, int digits) {
            int number = 0;
            for (int i = 0; i < digits; i++) {
                number = number * 10 + at(from + i) - '0';
            }
            return number;
        }
    }
}
