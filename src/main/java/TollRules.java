import java.util.Arrays;

/** Rules of a toll, as ../shared/DOC.md promises them. */
public final class TollRules {
    public static final int BAD = -1, FULL = -2;
    public static final long NONE = Long.MIN_VALUE;

    private static final int PLACES = 8;
    private static final int ROWS = 4;
    private static final int MOST_ITEMS = 10;
    private static final int MOST_RULES = 40;
    private static final int MOST_STEPS = 64;
    private static final int MOST_ROUNDS = 30;
    private static final int ROOM_BOUND = 50;
    private static final int NOTHING = -1;
    private static final int NO_RULE = -1;

    private static final int PLUS = 0;
    private static final int TIMES = 1;
    private static final int BY = 2;
    private static final int REST = 3;
    private static final int KEPT = 4;
    private static final int SEEN = 5;
    private static final int ITEM = 6;
    private static final int LATE = 7;
    private static final int THEN = 8;
    private static final int TWICE = 9;
    private static final int IF = 10;
    private static final int ELSE = 11;
    private static final int TICK = 12;
    private static final int OWN = 13;
    private static final int NOW = 14;
    private static final int ROOM = 15;
    private static final int LESS = 16;
    private static final int LACK = 17;

    private static final int SUM = 0;
    private static final int GREATER = 1;
    private static final int MIXED = 2;
    private static final int TAKEN_FROM = 3;
    private static final int DIVIDED = 4;

    private static final int NOT_REFUSED = 0;
    private static final int ZERO = 1;
    private static final int INDEX = 2;
    private static final int NULL = 3;
    private static final int SIZE = 4;
    private static final int SPENT = 5;

    /** A row's items; several ROWS and ITEM rules may hold the very same one. */
    private static final class Row {
        final int[] items;

        Row(int[] items) {
            this.items = items;
        }

        boolean reaches(int i) {
            return i >= 0 && i < items.length;
        }
    }

    /** A rule as it was made; only the count of OWN changes later. */
    private static final class Rule {
        final int kind;
        final int a;
        final int b;
        final int kept;
        final Row keptRow;
        int own;

        Rule(int kind, int a, int b, int kept, Row keptRow) {
            this.kind = kind;
            this.a = a;
            this.b = b;
            this.kept = kept;
            this.keptRow = keptRow;
            this.own = 0;
        }
    }

    private final int[] places = new int[PLACES];
    private final Row[] rows = new Row[ROWS];
    private final Rule[] rules = new Rule[MOST_RULES];
    private int rulesMade = 0;

    // Made once and used again by keep() and order(), so that these calls make little.
    private final int[] moved = new int[MOST_ITEMS];
    private final int[] keys = new int[MOST_ITEMS];
    private final int[] origins = new int[MOST_ITEMS];

    // A refusal is held here, not thrown: while it stands, what give() returns is not looked at.
    private int refusal = NOT_REFUSED;
    private int refusedRule = NO_RULE;

    private int latestResult = 0;
    private int latestSteps = 0;
    private int stepsInAll = 0;
    private int failedKind = NOT_REFUSED;
    private int failedRule = NO_RULE;
    private int failedCalls = 0;
    private int otherWays = 0;

    public TollRules() {
    }

    public long place(int p, int v) {
        if (!isPlace(p)) {
            return NONE;
        }
        int before = places[p];
        places[p] = v;
        return before;
    }

    public long has(int p) {
        return isPlace(p) ? places[p] : NONE;
    }

    public int row(int r, int n) {
        if (!isRow(r) || n < NOTHING || n > MOST_ITEMS) {
            return BAD;
        }
        rows[r] = n == NOTHING ? null : new Row(new int[n]);
        return 1;
    }

    public int share(int r, int q) {
        if (!isRow(r) || !isRow(q)) {
            return BAD;
        }
        rows[r] = rows[q];
        return rows[r] == null ? 0 : 1;
    }

    public int put(int r, int i, int v) {
        if (!isRow(r)) {
            return BAD;
        }
        Row row = rows[r];
        if (row == null) {
            return failureAnswer(NULL);
        }
        if (!row.reaches(i)) {
            return failureAnswer(INDEX);
        }
        row.items[i] = v;
        return 1;
    }

    public long item(int r, int i) {
        if (!isRow(r)) {
            return NONE;
        }
        Row row = rows[r];
        return row != null && row.reaches(i) ? row.items[i] : NONE;
    }

    public int rule(int kind, int a, int b) {
        if (!isAsTold(kind, a, b)) {
            return BAD;
        }
        if (rulesMade >= MOST_RULES) {
            return FULL;
        }
        int kept = kind == KEPT ? places[a] : 0;
        if (kind == NOW) {
            begin();
            kept = give(a, b);
            if (isRefused()) {
                return fail();
            }
        }
        Row keptRow = kind == ITEM ? rows[a] : null;
        rules[rulesMade] = new Rule(kind, a, b, kept, keptRow);
        rulesMade++;
        return rulesMade - 1;
    }

    public int apply(int rule, int x) {
        if (!isRule(rule)) {
            return BAD;
        }
        begin();
        int given = give(rule, x);
        if (isRefused()) {
            return fail();
        }
        latestResult = given;
        return 1;
    }

    public int each(int rule, int r) {
        if (!isRule(rule) || !isRow(r)) {
            return BAD;
        }
        Row row = rows[r];
        if (row == null) {
            return failureAnswer(NULL);
        }
        begin();
        int[] items = row.items;
        for (int i = 0; i < items.length; i++) {
            int given = give(rule, items[i]);
            if (isRefused()) {
                return fail();
            }
            items[i] = given;
        }
        return items.length;
    }

    public int keep(int rule, int r) {
        if (!isRule(rule) || !isRow(r)) {
            return BAD;
        }
        Row row = rows[r];
        if (row == null) {
            return failureAnswer(NULL);
        }
        begin();
        int[] items = row.items;
        int stay = 0;
        for (int i = 0; i < items.length; i++) {
            int given = give(rule, items[i]);
            if (isRefused()) {
                return fail();
            }
            if (given != 0) {
                moved[stay] = items[i];
                stay++;
            }
        }
        rows[r] = new Row(Arrays.copyOf(moved, stay));
        return stay;
    }

    public int order(int rule, int r) {
        if (!isRule(rule) || !isRow(r)) {
            return BAD;
        }
        Row row = rows[r];
        if (row == null) {
            return failureAnswer(NULL);
        }
        begin();
        int[] items = row.items;
        for (int i = 0; i < items.length; i++) {
            keys[i] = give(rule, items[i]);
            if (isRefused()) {
                return fail();
            }
        }
        sortOrigins(items.length);
        return moveByOrigins(items);
    }

    public int fold(int how, int r, int x) {
        if (how < SUM || how > DIVIDED || !isRow(r)) {
            return BAD;
        }
        Row row = rows[r];
        if (row == null) {
            return failureAnswer(NULL);
        }
        refusal = NOT_REFUSED;
        int[] items = row.items;
        int folded = x;
        for (int i = 0; i < items.length; i++) {
            folded = foldOne(how, folded, items[i]);
            if (isRefused()) {
                return fail();
            }
        }
        latestResult = folded;
        return 1;
    }

    public int until(int rule, int test, int x, int most) {
        if (!isRule(rule) || !isRule(test) || most < 1 || most > MOST_ROUNDS) {
            return BAD;
        }
        begin();
        int reached = x;
        int rounds = 0;
        boolean goesOn = true;
        while (goesOn && rounds < most) {
            reached = give(rule, reached);
            if (isRefused()) {
                return fail();
            }
            rounds++;
            goesOn = give(test, reached) != 0;
            if (isRefused()) {
                return fail();
            }
        }
        latestResult = reached;
        return rounds;
    }

    public int result() {
        return latestResult;
    }

    public int steps() {
        return latestSteps;
    }

    public int failed(int what) {
        switch (what) {
            case 0:
                return failedKind;
            case 1:
                return failedRule;
            default:
                return BAD;
        }
    }

    public int count(int what) {
        switch (what) {
            case 0:
                return rulesMade;
            case 1:
                return stepsInAll;
            case 2:
                return failedCalls;
            case 3:
                return otherWays;
            case 4:
                return rowsOfNothing();
            default:
                return BAD;
        }
    }

    private static boolean isPlace(int p) {
        return p >= 0 && p < PLACES;
    }

    private static boolean isRow(int r) {
        return r >= 0 && r < ROWS;
    }

    private boolean isRule(int number) {
        return number >= 0 && number < rulesMade;
    }

    private boolean isAsTold(int kind, int a, int b) {
        switch (kind) {
            case KEPT:
            case SEEN:
            case TICK:
                return isPlace(a);
            case ITEM:
            case LATE:
                return isRow(a);
            case TWICE:
            case NOW:
                return isRule(a);
            case THEN:
            case IF:
            case ELSE:
            case LESS:
                return isRule(a) && isRule(b);
            default:
                return kind >= PLUS && kind <= LACK;
        }
    }

    private int rowsOfNothing() {
        int found = 0;
        for (int r = 0; r < ROWS; r++) {
            if (rows[r] == null) {
                found++;
            }
        }
        return found;
    }

    private void begin() {
        latestSteps = 0;
        refusal = NOT_REFUSED;
    }

    private boolean isRefused() {
        return refusal != NOT_REFUSED;
    }

    private int refuse(int why, int number) {
        refusal = why;
        refusedRule = number;
        return 0;
    }

    private int fail() {
        failedKind = refusal;
        failedRule = refusedRule;
        failedCalls++;
        return failureAnswer(refusal);
    }

    private static int failureAnswer(int why) {
        return -10 - why;
    }

    /** A rule asks only rules made before it, so this goes at most MOST_RULES deep. */
    private int give(int number, int x) {
        if (latestSteps >= MOST_STEPS) {
            return refuse(SPENT, number);
        }
        latestSteps++;
        stepsInAll++;
        Rule rule = rules[number];
        switch (rule.kind) {
            case PLUS:
                return x + rule.a;
            case TIMES:
                return x * rule.a;
            case BY:
                return rule.a == 0 ? refuse(ZERO, number) : x / rule.a;
            case REST:
                return rule.a == 0 ? refuse(ZERO, number) : x % rule.a;
            case KEPT:
                return x + rule.kept;
            case SEEN:
                return x + places[rule.a];
            case ITEM:
                return giveItem(rule.keptRow, x, number);
            case LATE:
                return giveItem(rows[rule.a], x, number);
            case TICK:
                places[rule.a]++;
                return x + places[rule.a];
            case OWN:
                rule.own++;
                return x + rule.a * rule.own;
            case NOW:
                return rule.kept;
            case ROOM:
                return giveRoom(x, number);
            case LACK:
                return refuse(NULL, number);
            default:
                return giveByOthers(rule, x);
        }
    }

    private int giveItem(Row row, int i, int number) {
        if (row == null) {
            return refuse(NULL, number);
        }
        return row.reaches(i) ? row.items[i] : refuse(INDEX, number);
    }

    // Only the length of the row is ever seen, so none is made: that keeps the room for others.
    private int giveRoom(int x, int number) {
        int length = x % ROOM_BOUND;
        return length < 0 ? refuse(SIZE, number) : length;
    }

    private int giveByOthers(Rule rule, int x) {
        int first = give(rule.a, x);
        if (isRefused()) {
            return rule.kind == ELSE && refusal != SPENT ? giveOtherWay(rule.b, x) : 0;
        }
        switch (rule.kind) {
            case THEN:
                return give(rule.b, first);
            case TWICE:
                return give(rule.a, first);
            case IF:
                return first != 0 ? give(rule.b, x) : x;
            case LESS:
                return Math.min(first, give(rule.b, x));
            default:
                return first;
        }
    }

    private int giveOtherWay(int number, int x) {
        refusal = NOT_REFUSED;
        otherWays++;
        return give(number, x);
    }

    private int foldOne(int how, int x, int i) {
        switch (how) {
            case SUM:
                return x + i;
            case GREATER:
                return Math.max(x, i);
            case MIXED:
                return 31 * x + i;
            case TAKEN_FROM:
                return i - x;
            default:
                return i == 0 ? refuse(ZERO, NO_RULE) : x / i;
        }
    }

    /** Sorts by insertion, since items with like keys must stay as they stood. */
    private void sortOrigins(int length) {
        for (int i = 0; i < length; i++) {
            int at = i;
            while (at > 0 && keys[origins[at - 1]] > keys[i]) {
                origins[at] = origins[at - 1];
                at--;
            }
            origins[at] = i;
        }
    }

    private int moveByOrigins(int[] items) {
        int elsewhere = 0;
        for (int i = 0; i < items.length; i++) {
            moved[i] = items[origins[i]];
            if (origins[i] != i) {
                elsewhere++;
            }
        }
        System.arraycopy(moved, 0, items, 0, items.length);
        return elsewhere;
    }
}
