import java.util.Random;

/** Random runs of calls, the class beside the model; arguments in range, at the edges and wild. */
public final class ModelTest {
    private static final int RUNS = 400;
    private static final int CALLS = 512;
    private static final int[] WILD = {
        Integer.MIN_VALUE, Integer.MIN_VALUE + 1, -129, -2, -1, 8, 10, 21, 61, 100, 101, 999, Integer.MAX_VALUE,
    };

    private final Check check = new Check("model");
    private final Random random;
    private HandUnderTheChin x;
    private Model y;

    private ModelTest(long seed) {
        random = new Random(seed);
    }

    public static void main(String[] args) {
        ModelTest test = new ModelTest(20261118L);
        for (int run = 0; run < RUNS; run++) {
            test.run(run);
        }
        test.check.end();
    }

    private void run(int run) {
        x = new HandUnderTheChin();
        y = new Model();
        for (int call = 0; call < CALLS; call++) {
            String name = "run " + run + " call " + call + " ";
            try {
                step(name);
            } catch (RuntimeException e) {
                check.same(name + "threw", e.toString(), "nothing");
                return;
            }
        }
    }

    /** Mostly from a to b, now and then one beside it, or anything. */
    private int pick(int a, int b) {
        int how = random.nextInt(40);
        if (how == 0) {
            return WILD[random.nextInt(WILD.length)];
        }
        if (how == 1) {
            return a - 1;
        }
        if (how == 2) {
            return b + 1;
        }
        return a + random.nextInt(b - a + 1);
    }

    private int who() {
        return pick(0, Math.max(0, y.count(0) - 1));
    }

    private void same(String name, long got, long want) {
        check.due(name, got, want);
    }

    private void step(String name) {
        int kind = random.nextInt(100);
        if (kind < 8) {
            text(name);
        } else if (kind < 40) {
            change(name);
        } else if (kind < 75) {
            ask(name);
        } else {
            shelves(name);
        }
    }

    private void text(String name) {
        StringBuilder text = new StringBuilder();
        int n = 1 + random.nextInt(4);
        for (int i = 0; i < n; i++) {
            text.append(statement());
        }
        if (random.nextInt(6) == 0) {
            int at = random.nextInt(text.length());
            text.setCharAt(at, "cmbxts0123456789; z".charAt(random.nextInt(19)));
        }
        if (random.nextInt(10) == 0) {
            text.setLength(random.nextInt(text.length() + 1));
        }
        int d = random.nextInt(8);
        x.row(d, 0, text.length());
        y.row(d, 0, text.length());
        for (int i = 0; i < text.length(); i++) {
            x.put(d, i, text.charAt(i));
            y.put(d, i, text.charAt(i));
        }
        same(name + "bath " + text, x.bath(d), y.bath(d));
        state(name);
    }

    private int digit(int most) {
        return random.nextInt(30) == 0 ? random.nextInt(10) : random.nextInt(most + 1);
    }

    private String statement() {
        int c = digit(Math.max(0, y.count(0) - 1));
        switch (random.nextInt(8)) {
            case 0:
            case 1: return String.format("c%d%d%02d;", digit(7), random.nextInt(10), random.nextInt(22));
            case 2: return "b" + random.nextInt(4) + ";";
            case 3: return "x" + c + digit(5) + ";";
            case 4: return String.format("t%d%02d;", c, random.nextInt(22));
            case 5: return "s" + c + digit(7) + ";";
            default: return "m" + c + digit(3) + ";";
        }
    }

    private void state(String name) {
        for (int what = -1; what <= 6; what++) {
            same(name + "count " + what, x.count(what), y.count(what));
        }
        for (int c = 0; c < y.count(0); c++) {
            for (int what = 0; what <= 9; what++) {
                same(name + "child " + c + " " + what, x.child(c, what), y.child(c, what));
            }
        }
    }

    private void change(String name) {
        int a = who();
        int b = who();
        int what = pick(0, 1);
        switch (random.nextInt(12)) {
            case 0: {
                int d = pick(0, 7);
                int trust = pick(0, 20);
                same(name + "comes", x.comes(d, trust), y.comes(d, trust));
                break;
            }
            case 1: {
                int v = pick(0, what == 0 ? 20 : 7);
                same(name + "feels", x.feels(a, what, v), y.feels(a, what, v));
                break;
            }
            case 2:
                same(name + "change", x.change(a, b), y.change(a, b));
                break;
            case 3: {
                int weeks = random.nextInt(3) == 0 ? pick(0, 9) : random.nextInt(3);
                same(name + "rest", x.rest(weeks), y.rest(weeks));
                break;
            }
            case 4:
                same(name + "image", x.image(), y.image());
                break;
            case 5:
                if (random.nextInt(4) == 0) {
                    same(name + "restore", x.restore(), y.restore());
                }
                break;
            default: {
                int way = pick(0, 3);
                same(name + "minute " + a + " " + way, x.minute(a, way), y.minute(a, way));
                break;
            }
        }
        state(name);
    }

    private void ask(String name) {
        int a = who();
        int b = who();
        int what = pick(0, 1);
        int d = pick(0, 7);
        switch (random.nextInt(22)) {
            case 0: same(name + "ready", x.ready(), y.ready()); break;
            case 1:
            case 2: same(name + "alone", x.alone(a, what), y.alone(a, what)); break;
            case 3: same(name + "neverHeld", x.neverHeld(a), y.neverHeld(a)); break;
            case 4: {
                int n = pick(0, 3);
                same(name + "mostSteps " + n + " " + what, x.mostSteps(n, what), y.mostSteps(n, what));
                break;
            }
            case 5: {
                int n = pick(0, 99);
                same(name + "byTurns", x.byTurns(n, what), y.byTurns(n, what));
                break;
            }
            case 6: same(name + "allSwim", x.allSwim(), y.allSwim()); break;
            case 7: {
                int i = pick(-1, 5);
                same(name + "beside " + i, x.beside(i), y.beside(i));
                break;
            }
            case 8: same(name + "helps", x.helps(), y.helps()); break;
            case 9: same(name + "costs", x.costs(a), y.costs(a)); break;
            case 10: {
                int air = pick(0, 9);
                int v = pick(1, 9);
                same(name + "bands", x.bands(a, air, v), y.bands(a, air, v));
                break;
            }
            case 11:
            case 12: {
                int n = pick(0, 8);
                int k = pick(0, 7) / 2;
                int t = pick(2, 20);
                same(name + "frights", x.frights(a, n, k, t, what), y.frights(a, n, k, t, what));
                break;
            }
            case 13: {
                int v = pick(0, 20);
                int f = pick(0, 9);
                same(name + "was", x.was(d, v, f, what), y.was(d, v, f, what));
                break;
            }
            case 14: same(name + "dare", x.dare(a, b), y.dare(a, b)); break;
            case 15: {
                int h = pick(0, 30);
                same(name + "group", x.group(h, what), y.group(h, what));
                break;
            }
            case 16: same(name + "forget", x.forget(), y.forget()); break;
            case 17: {
                int n = pick(0, 60);
                same(name + "coldest", x.coldest(a, n), y.coldest(a, n));
                break;
            }
            case 18: same(name + "last", x.last(), y.last()); break;
            case 19: same(name + "mean", x.mean(what), y.mean(what)); break;
            case 20: told(name, a); break;
            default: {
                int n = pick(1, 20);
                int z = random.nextInt();
                same(name + "weeks " + n + " " + z, x.weeks(n, z, what), y.weeks(n, z, what));
                break;
            }
        }
    }

    /** Rows that are nearly true, so that judge, was and forged get far. */
    private void told(String name, int a) {
        int d = random.nextInt(8);
        int sort = random.nextInt(3);
        int n = random.nextInt(20);
        x.row(d, sort, n);
        y.row(d, sort, n);
        for (int i = 0; i < n; i++) {
            int found = 0;
            while (found < 21) {
                x.put(d, i, found);
                if (x.judge(d, a) != i) {
                    break;
                }
                found++;
            }
            y.put(d, i, found);
            if (random.nextInt(6) == 0) {
                int least = sort == 0 ? -128 : sort == 1 ? -32768 : Integer.MIN_VALUE;
                x.put(d, i, least);
                y.put(d, i, least);
            }
        }
        same(name + "judge", x.judge(d, a), y.judge(d, a));
        int h = y.child(a, 5);
        int v = random.nextInt(21);
        for (int i = 0; i < n; i++) {
            int trust = Math.min(20, v + i * Math.max(1, h)) + (random.nextInt(30) == 0 ? 1 : 0);
            x.put(d, i, trust);
            y.put(d, i, trust);
        }
        int f = Math.max(0, Math.min(9, y.child(a, 1)));
        same(name + "was", x.was(d, v, f, 0), y.was(d, v, f, 0));
        same(name + "was", x.was(d, v, f, 1), y.was(d, v, f, 1));
        for (int i = 0; i < n; i++) {
            int put = i % 2 == 0 ? digit(Math.max(0, y.count(0) - 1)) : digit(3);
            x.put(d, i, put);
            y.put(d, i, put);
        }
        same(name + "forged", x.forged(d), y.forged(d));
    }

    private void shelves(String name) {
        int d = pick(0, 7);
        int e = pick(0, 7);
        switch (random.nextInt(10)) {
            case 0:
            case 1: {
                int what = random.nextInt(6) == 0 ? pick(0, 1) : 1;
                int k = pick(0, 7);
                int f = pick(0, 9);
                same(name + "keep", x.keep(d, what, k, f), y.keep(d, what, k, f));
                break;
            }
            case 2: {
                int sort = pick(0, 2);
                int n = random.nextBoolean() ? pick(0, 6) : pick(0, 100);
                same(name + "row", x.row(d, sort, n), y.row(d, sort, n));
                break;
            }
            case 3:
            case 4: {
                int i = pick(0, 5);
                int v = random.nextBoolean() ? random.nextInt(22) : random.nextInt();
                same(name + "put", x.put(d, i, v), y.put(d, i, v));
                break;
            }
            case 5: {
                int i = pick(0, 5);
                check.same(name + "element", Texts.element(x, d, i), y.element(d, i));
                break;
            }
            case 6: {
                int i = pick(0, 4);
                int j = pick(0, 4);
                int n = pick(0, 4);
                int to = random.nextInt(3) == 0 ? d : e;
                same(name + "copy", x.copy(d, i, to, j, n), y.copy(d, i, to, j, n));
                break;
            }
            case 7: same(name + "cost", x.cost(d), y.cost(d)); break;
            case 8: same(name + "toss", x.toss(d), y.toss(d)); break;
            default:
                same(name + "bath", x.bath(d), y.bath(d));
                same(name + "forged", x.forged(d), y.forged(d));
                same(name + "judge", x.judge(d, e), y.judge(d, e));
                break;
        }
        if (d >= 0 && d < 8) {
            for (int i = -1; i <= 6; i++) {
                check.same(name + "element " + i, Texts.element(x, d, i), y.element(d, i));
            }
        }
    }
}
