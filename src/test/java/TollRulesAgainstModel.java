import java.util.ArrayList;
import java.util.Arrays;
import java.util.Comparator;
import java.util.List;

/** Long runs of mixed calls, each answer held against a second, plain form of the document. */
public final class TollRulesAgainstModel {
    private static final int RUNS = 6000;
    private static final int CALLS = 512;
    private static final int[] ODD = {-1, -2, 50, -50, 1000, Integer.MIN_VALUE, Integer.MAX_VALUE};

    private static long seed;

    /** Refused: carries the kind and the number of the rule; unlike the class, the model throws. */
    private static final class Refused extends RuntimeException {
        private static final long serialVersionUID = 1L;
        final int kind;
        final int at;

        Refused(int kind, int at) {
            super(null, null, false, false);
            this.kind = kind;
            this.at = at;
        }
    }

    private interface Act {
        int of(int x);
    }

    private interface Call {
        int done();
    }

    private static final class Model {
        final int[] board = new int[8];
        final int[][] rows = new int[4][];
        final List<Act> rules = new ArrayList<>();
        int result, steps, allSteps, failedKind, failedCalls, others;
        int failedAt = -1;

        boolean isRule(int n) {
            return n >= 0 && n < rules.size();
        }

        int run(int n, int x) {
            if (steps == 64) {
                throw new Refused(5, n);
            }
            steps++;
            allSteps++;
            return rules.get(n).of(x);
        }

        int attempt(boolean stepping, Call call) {
            if (stepping) {
                steps = 0;
            }
            try {
                return call.done();
            } catch (Refused r) {
                failedKind = r.kind;
                failedAt = r.at;
                failedCalls++;
                return -10 - r.kind;
            }
        }

        int itemOf(int[] row, int i, int n) {
            if (row == null) {
                throw new Refused(3, n);
            }
            if (i < 0 || i >= row.length) {
                throw new Refused(2, n);
            }
            return row[i];
        }

        int nonZero(int d, int n) {
            if (d == 0) {
                throw new Refused(1, n);
            }
            return d;
        }

        int size(int s, int n) {
            if (s < 0) {
                throw new Refused(4, n);
            }
            return new int[s].length;
        }

        int otherwise(int a, int b, int x) {
            try {
                return run(a, x);
            } catch (Refused r) {
                if (r.kind == 5) {
                    throw r;
                }
            }
            others++;
            return run(b, x);
        }

        int lack(int n) {
            throw new Refused(3, n);
        }

        Act act(int kind, int a, int b, int n) {
            switch (kind) {
                case 0: return x -> x + a;
                case 1: return x -> x * a;
                case 2: return x -> x / nonZero(a, n);
                case 3: return x -> x % nonZero(a, n);
                case 4: { int had = board[a]; return x -> x + had; }
                case 5: return x -> x + board[a];
                case 6: { int[] was = rows[a]; return x -> itemOf(was, x, n); }
                case 7: return x -> itemOf(rows[a], x, n);
                case 8: return x -> run(b, run(a, x));
                case 9: return x -> run(a, run(a, x));
                case 10: return x -> run(a, x) != 0 ? run(b, x) : x;
                case 11: return x -> otherwise(a, b, x);
                case 12: return x -> x + ++board[a];
                case 13: { int[] own = {0}; return x -> x + a * ++own[0]; }
                case 14: { int gave = run(a, b); return x -> gave; }
                case 15: return x -> size(x % 50, n);
                case 16: return x -> Math.min(run(a, x), run(b, x));
                default: return x -> lack(n);
            }
        }

        int rule(int kind, int a, int b) {
            boolean bad = kind < 0 || kind > 17
                    || (kind >= 8 && kind <= 11 || kind == 14 || kind == 16) && !isRule(a)
                    || (kind == 4 || kind == 5 || kind == 12) && (a < 0 || a > 7)
                    || (kind == 6 || kind == 7) && (a < 0 || a > 3)
                    || (kind == 8 || kind == 10 || kind == 11 || kind == 16) && !isRule(b);
            if (bad) {
                return -1;
            }
            int n = rules.size();
            if (n == 40) {
                return -2;
            }
            return attempt(kind == 14, () -> {
                rules.add(act(kind, a, b, n));
                return n;
            });
        }

        int apply(int rule, int x) {
            if (!isRule(rule)) {
                return -1;
            }
            return attempt(true, () -> {
                result = run(rule, x);
                return 1;
            });
        }

        int overRow(int rule, int r, Call call) {
            if (!isRule(rule) || r < 0 || r > 3) {
                return -1;
            }
            return rows[r] == null ? -13 : attempt(true, call);
        }

        int each(int rule, int r) {
            return overRow(rule, r, () -> {
                for (int i = 0; i < rows[r].length; i++) {
                    rows[r][i] = run(rule, rows[r][i]);
                }
                return rows[r].length;
            });
        }

        int keep(int rule, int r) {
            return overRow(rule, r, () -> {
                rows[r] = Arrays.stream(rows[r].clone()).filter(i -> run(rule, i) != 0).toArray();
                return rows[r].length;
            });
        }

        int order(int rule, int r) {
            return overRow(rule, r, () -> {
                int[] before = rows[r].clone();
                int[] keys = Arrays.stream(before).map(i -> run(rule, i)).toArray();
                List<Integer> from = new ArrayList<>();
                for (int i = 0; i < keys.length; i++) {
                    from.add(i);
                }
                from.sort(Comparator.comparingInt(i -> keys[i]));
                int elsewhere = 0;
                for (int i = 0; i < keys.length; i++) {
                    rows[r][i] = before[from.get(i)];
                    elsewhere += from.get(i) == i ? 0 : 1;
                }
                return elsewhere;
            });
        }

        int fold(int how, int r, int x) {
            if (how < 0 || how > 4 || r < 0 || r > 3) {
                return -1;
            }
            return rows[r] == null ? -13 : attempt(false, () -> {
                int y = x;
                for (int i : rows[r]) {
                    y = how == 0 ? y + i : how == 1 ? Math.max(y, i) : how == 2 ? 31 * y + i
                            : how == 3 ? i - y : y / nonZero(i, -1);
                }
                result = y;
                return 1;
            });
        }

        int until(int rule, int test, int x, int most) {
            if (!isRule(rule) || !isRule(test) || most < 1 || most > 30) {
                return -1;
            }
            return attempt(true, () -> {
                int y = x;
                int n = 0;
                do {
                    y = run(rule, y);
                    n++;
                } while (run(test, y) != 0 && n < most);
                result = y;
                return n;
            });
        }

        long item(int r, int i) {
            boolean there = r >= 0 && r <= 3 && rows[r] != null && i >= 0 && i < rows[r].length;
            return there ? rows[r][i] : Long.MIN_VALUE;
        }

        int put(int r, int i, int v) {
            if (r < 0 || r > 3) {
                return -1;
            }
            if (rows[r] == null) {
                return -13;
            }
            if (i < 0 || i >= rows[r].length) {
                return -12;
            }
            rows[r][i] = v;
            return 1;
        }

        int row(int r, int n) {
            if (r < 0 || r > 3 || n < -1 || n > 10) {
                return -1;
            }
            rows[r] = n < 0 ? null : new int[n];
            return 1;
        }

        int share(int r, int q) {
            if (r < 0 || r > 3 || q < 0 || q > 3) {
                return -1;
            }
            rows[r] = rows[q];
            return rows[q] == null ? 0 : 1;
        }

        int failed(int what) {
            return what == 0 ? failedKind : what == 1 ? failedAt : -1;
        }

        int count(int what) {
            int nothing = (int) Arrays.stream(rows).filter(row -> row == null).count();
            int[] all = {rules.size(), allSteps, failedCalls, others, nothing};
            return what >= 0 && what < all.length ? all[what] : -1;
        }

        long has(int p) {
            return p < 0 || p > 7 ? Long.MIN_VALUE : board[p];
        }

        long place(int p, int v) {
            if (p < 0 || p > 7) {
                return Long.MIN_VALUE;
            }
            int had = board[p];
            board[p] = v;
            return had;
        }
    }

    private static int below(int bound) {
        seed = seed * 6364136223846793005L + 1442695040888963407L;
        return (int) ((seed >>> 33) % bound);
    }

    /** Mostly a number of the span, at times one that stands outside it. */
    private static int near(int span) {
        return below(25) == 0 ? ODD[below(ODD.length)] : below(25) == 0 ? span : below(span);
    }

    private static int number() {
        return below(20) == 0 ? ODD[below(ODD.length)] : below(17) - 6;
    }

    private static long[] oneCall(TollRules t, Model m) {
        int rules = Math.max(1, m.rules.size());
        int what = below(16);
        int r = near(4);
        int n = near(rules);
        int v = number();
        switch (what) {
            case 0: { int p = near(8); return new long[] {what, t.place(p, v), m.place(p, v)}; }
            case 1: { int s = near(12) - 1; return new long[] {what, t.row(r, s), m.row(r, s)}; }
            case 2: { int q = near(4); return new long[] {what, t.share(r, q), m.share(r, q)}; }
            case 3: case 4: case 5: {
                int i = near(10);
                return new long[] {what, t.put(r, i, v), m.put(r, i, v)};
            }
            case 6: case 7: {
                int kind = near(18);
                int a = below(4) == 0 ? number() : kind >= 8 ? n : near(8);
                int b = below(8) == 0 ? number() : near(rules);
                return new long[] {what, t.rule(kind, a, b), m.rule(kind, a, b)};
            }
            case 8: case 9: return new long[] {what, t.apply(n, v), m.apply(n, v)};
            case 10: return new long[] {what, t.each(n, r), m.each(n, r)};
            case 11: return new long[] {what, t.keep(n, r), m.keep(n, r)};
            case 12: case 13: return new long[] {what, t.order(n, r), m.order(n, r)};
            case 14: { int how = near(5); return new long[] {what, t.fold(how, r, v), m.fold(how, r, v)}; }
            default: {
                int test = near(rules);
                int most = near(32);
                return new long[] {what, t.until(n, test, v, most), m.until(n, test, v, most)};
            }
        }
    }

    /** A question that changes nothing, asked behind each call. */
    private static long[] oneQuestion(TollRules t, Model m) {
        int what = 20 + below(8);
        switch (what) {
            case 20: return new long[] {what, t.result(), m.result};
            case 21: return new long[] {what, t.steps(), m.steps};
            case 22: { int of = near(2); return new long[] {what, t.failed(of), m.failed(of)}; }
            case 23: case 24: { int of = near(5); return new long[] {what, t.count(of), m.count(of)}; }
            case 25: { int p = near(8); return new long[] {what, t.has(p), m.has(p)}; }
            default: {
                int r = near(4);
                int i = near(10);
                return new long[] {what, t.item(r, i), m.item(r, i)};
            }
        }
    }

    private static void hold(int run, int call, long[] answers) {
        if (answers[1] != answers[2]) {
            System.out.println("run " + run + ", call " + call + " of sort " + answers[0] + " answered "
                    + answers[1] + ", due is " + answers[2]);
            System.exit(1);
        }
    }

    public static void main(String[] args) {
        long[] seen = new long[20];
        for (int run = 1; run <= RUNS; run++) {
            seed = run;
            TollRules t = new TollRules();
            Model m = new Model();
            for (int call = 1; call <= CALLS; call += 2) {
                long[] answers = oneCall(t, m);
                hold(run, call, answers);
                hold(run, call + 1, oneQuestion(t, m));
                if (answers[1] < 0 && answers[1] > -20) {
                    seen[(int) -answers[1]]++;
                }
            }
        }
        for (int answer : new int[] {1, 2, 11, 12, 13, 14, 15}) {
            if (seen[answer] == 0) {
                System.out.println("the runs never met the answer " + -answer);
                System.exit(1);
            }
        }
        System.out.println(RUNS + " runs of " + CALLS + " calls are as due");
    }
}
