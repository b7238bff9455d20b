/** Each promise of the document: ordinary inputs, the edges that it names, and wrong inputs. */
public final class TollRulesPromises {
    private static final int PLUS = 0, TIMES = 1, BY = 2, REST = 3, KEPT = 4, SEEN = 5, ITEM = 6, LATE = 7;
    private static final int THEN = 8, TWICE = 9, IF = 10, ELSE = 11, TICK = 12, OWN = 13, NOW = 14;
    private static final int ROOM = 15, LESS = 16, LACK = 17;
    private static final int BAD = -1, FULL = -2, ZERO = -11, INDEX = -12, NULL = -13, SIZE = -14, SPENT = -15;
    private static final int MIN = Integer.MIN_VALUE, MAX = Integer.MAX_VALUE;
    private static final int[] WRONG_RULES = {-1, MIN, MAX, 40};
    private static final int[] WRONG_ROWS = {-1, 4, MIN, MAX};
    private static final int[] WRONG_PLACES = {-1, 8, MIN, MAX};

    private static int wrong = 0;
    private static int asked = 0;
    private static String part = "";

    public static void main(String[] args) {
        newObject();
        place();
        has();
        row();
        share();
        put();
        item();
        ruleNumbers();
        ruleWrongInputs();
        ruleFull();
        applyNumbers();
        applyBoard();
        applyRows();
        applyOthers();
        applyElse();
        applyNow();
        applySpent();
        each();
        keep();
        order();
        fold();
        until();
        result();
        steps();
        failed();
        count();
        longUse();
        System.out.println(wrong == 0 ? asked + " answers are as due" : wrong + " answers are not as due");
        if (wrong != 0) {
            System.exit(1);
        }
    }

    private static void due(String call, long got, long want) {
        asked++;
        if (got != want) {
            wrong++;
            System.out.println(part + ": " + call + " answered " + got + ", due is " + want);
        }
    }

    private static void gives(TollRules t, int rule, int x, int want) {
        due("apply(" + rule + ", " + x + ")", t.apply(rule, x), 1);
        due("result() of apply(" + rule + ", " + x + ")", t.result(), want);
    }

    private static void refuses(TollRules t, int rule, int x, int failure, int at) {
        int before = t.result();
        int calls = t.count(2);
        due("apply(" + rule + ", " + x + ")", t.apply(rule, x), failure);
        due("failed(0)", t.failed(0), -10 - failure);
        due("failed(1)", t.failed(1), at);
        due("result() behind a failure", t.result(), before);
        due("count(2)", t.count(2), calls + 1);
    }

    private static void made(TollRules t, int r, int... items) {
        due("row(" + r + ", " + items.length + ")", t.row(r, items.length), 1);
        for (int i = 0; i < items.length; i++) {
            due("put(" + r + ", " + i + ", " + items[i] + ")", t.put(r, i, items[i]), 1);
        }
    }

    private static void stands(TollRules t, int r, int... items) {
        for (int i = 0; i < items.length; i++) {
            due("item(" + r + ", " + i + ")", t.item(r, i), items[i]);
        }
        due("item(" + r + ", " + items.length + ")", t.item(r, items.length), TollRules.NONE);
    }

    private static void counts(TollRules t, int rules, int steps, int failed, int other, int nothing) {
        due("count(0)", t.count(0), rules);
        due("count(1)", t.count(1), steps);
        due("count(2)", t.count(2), failed);
        due("count(3)", t.count(3), other);
        due("count(4)", t.count(4), nothing);
    }

    private static void newObject() {
        part = "promise 1";
        TollRules t = new TollRules();
        counts(t, 0, 0, 0, 0, 4);
        due("apply(0, 0)", t.apply(0, 0), BAD);
        for (int p = 0; p < 8; p++) {
            due("has(" + p + ")", t.has(p), 0);
        }
        for (int r = 0; r < 4; r++) {
            stands(t, r);
        }
        TollRules other = new TollRules();
        due("rule", t.rule(PLUS, 1, 0), 0);
        due("place", t.place(0, 5), 0);
        due("row", t.row(0, 1), 1);
        counts(other, 0, 0, 0, 0, 4);
        due("has(0) of another object", other.has(0), 0);
    }

    private static void place() {
        part = "promise 2";
        TollRules t = new TollRules();
        for (int p = 0; p < 8; p++) {
            due("place(" + p + ", ..)", t.place(p, 10 + p), 0);
        }
        for (int p = 0; p < 8; p++) {
            due("place(" + p + ", -1)", t.place(p, -1), 10 + p);
        }
        due("place(7, MIN)", t.place(7, MIN), -1);
        due("place(7, MAX)", t.place(7, MAX), MIN);
        due("place(7, 0)", t.place(7, 0), MAX);
        for (int p : WRONG_PLACES) {
            due("place(" + p + ", 3)", t.place(p, 3), TollRules.NONE);
        }
        due("has(6)", t.has(6), -1);
        due("has(7)", t.has(7), 0);
    }

    private static void has() {
        part = "promise 3";
        TollRules t = new TollRules();
        due("place(0, MIN)", t.place(0, MIN), 0);
        due("place(7, -4)", t.place(7, -4), 0);
        due("has(0)", t.has(0), MIN);
        due("has(7)", t.has(7), -4);
        due("has(7) again", t.has(7), -4);
        due("has(3)", t.has(3), 0);
        for (int p : WRONG_PLACES) {
            due("has(" + p + ")", t.has(p), TollRules.NONE);
        }
    }

    private static void row() {
        part = "promise 4";
        TollRules t = new TollRules();
        due("row(0, 0)", t.row(0, 0), 1);
        stands(t, 0);
        due("count(4)", t.count(4), 3);
        due("row(3, 10)", t.row(3, 10), 1);
        stands(t, 3, 0, 0, 0, 0, 0, 0, 0, 0, 0, 0);
        due("put(3, 9, 5)", t.put(3, 9, 5), 1);
        for (int n : new int[] {-2, 11, MIN, MAX}) {
            due("row(3, " + n + ")", t.row(3, n), BAD);
        }
        for (int r : WRONG_ROWS) {
            due("row(" + r + ", 1)", t.row(r, 1), BAD);
            due("row(" + r + ", -1)", t.row(r, -1), BAD);
        }
        due("item(3, 9)", t.item(3, 9), 5);
        due("row(3, 10)", t.row(3, 10), 1);
        due("item(3, 9) of a new one", t.item(3, 9), 0);
        due("row(3, -1)", t.row(3, -1), 1);
        due("item(3, 0)", t.item(3, 0), TollRules.NONE);
        due("put(3, 0, 1)", t.put(3, 0, 1), NULL);
        due("row(3, -1) again", t.row(3, -1), 1);
        due("count(4)", t.count(4), 3);
    }

    private static void share() {
        part = "promise 5";
        TollRules t = new TollRules();
        made(t, 0, 4, 5);
        due("share(1, 0)", t.share(1, 0), 1);
        due("share(3, 1)", t.share(3, 1), 1);
        due("put(3, 1, 9)", t.put(3, 1, 9), 1);
        stands(t, 0, 4, 9);
        stands(t, 1, 4, 9);
        due("share(0, 0)", t.share(0, 0), 1);
        stands(t, 0, 4, 9);
        due("row(0, 1)", t.row(0, 1), 1);
        stands(t, 1, 4, 9);
        due("share(1, 2), that is NOTHING", t.share(1, 2), 0);
        due("ROW 1 became NOTHING", t.put(1, 0, 1), NULL);
        stands(t, 3, 4, 9);
        due("count(4)", t.count(4), 2);
        due("share(2, 2)", t.share(2, 2), 0);
        for (int r : WRONG_ROWS) {
            due("share(" + r + ", 0)", t.share(r, 0), BAD);
            due("share(0, " + r + ")", t.share(0, r), BAD);
            due("share(" + r + ", 2)", t.share(r, 2), BAD);
        }
        stands(t, 0, 0);
    }

    private static void put() {
        part = "promise 6";
        TollRules t = new TollRules();
        due("row(2, 3)", t.row(2, 3), 1);
        due("put(2, 0, MIN)", t.put(2, 0, MIN), 1);
        due("put(2, 2, MAX)", t.put(2, 2, MAX), 1);
        due("put(2, 2, 6)", t.put(2, 2, 6), 1);
        for (int i : new int[] {-1, 3, 10, MIN, MAX}) {
            due("put(2, " + i + ", 1)", t.put(2, i, 1), INDEX);
            due("put(1, " + i + ", 1)", t.put(1, i, 1), NULL);
        }
        for (int r : WRONG_ROWS) {
            due("put(" + r + ", 0, 1)", t.put(r, 0, 1), BAD);
            due("put(" + r + ", -1, 1)", t.put(r, -1, 1), BAD);
        }
        due("row(0, 0)", t.row(0, 0), 1);
        due("put(0, 0, 1)", t.put(0, 0, 1), INDEX);
        stands(t, 2, MIN, 0, 6);
        counts(t, 0, 0, 0, 0, 2);
        due("failed(0)", t.failed(0), 0);
        due("failed(1)", t.failed(1), -1);
    }

    private static void item() {
        part = "promise 7";
        TollRules t = new TollRules();
        made(t, 1, -7, 0, MIN);
        stands(t, 1, -7, 0, MIN);
        for (int i : new int[] {-1, 3, MIN, MAX}) {
            due("item(1, " + i + ")", t.item(1, i), TollRules.NONE);
        }
        due("item(0, 0) of NOTHING", t.item(0, 0), TollRules.NONE);
        for (int r : WRONG_ROWS) {
            due("item(" + r + ", 0)", t.item(r, 0), TollRules.NONE);
        }
    }

    private static void ruleNumbers() {
        part = "promise 8, numbers";
        TollRules t = new TollRules();
        due("PLUS, which others take as RULE 0", t.rule(PLUS, MIN, MAX), 0);
        for (int kind = 0; kind <= 17; kind++) {
            due("rule(" + kind + ", 0, 0)", t.rule(kind, 0, 0), kind + 1);
        }
        due("count(0)", t.count(0), 19);
        due("steps() of NOW alone", t.steps(), 1);
        due("count(1) of NOW alone", t.count(1), 1);
        for (int kind : new int[] {PLUS, TIMES, BY, REST, OWN, ROOM, LACK}) {
            int next = t.count(0);
            due("rule(" + kind + ", MIN, MAX)", t.rule(kind, MIN, MAX), next);
        }
        for (int kind : new int[] {KEPT, SEEN, ITEM, LATE, TWICE, TICK, NOW}) {
            int next = t.count(0);
            due("rule(" + kind + ", 0, MIN)", t.rule(kind, 0, MIN), next);
        }
        due("KEPT of the last place", t.rule(KEPT, 7, -1), 33);
        due("LATE of the last row", t.rule(LATE, 3, -1), 34);
        due("THEN of the last rule", t.rule(THEN, 34, 34), 35);
    }

    private static void ruleWrongInputs() {
        part = "promise 8, wrong inputs";
        TollRules t = new TollRules();
        for (int kind : new int[] {THEN, TWICE, IF, ELSE, NOW, LESS}) {
            due("rule(" + kind + ", 0, 0) without RULES", t.rule(kind, 0, 0), BAD);
        }
        due("PLUS", t.rule(PLUS, 1, 0), 0);
        for (int kind : new int[] {-1, 18, MIN, MAX}) {
            due("rule(" + kind + ", 0, 0)", t.rule(kind, 0, 0), BAD);
        }
        for (int kind : new int[] {THEN, TWICE, IF, ELSE, NOW, LESS}) {
            for (int a : new int[] {-1, 1, 39, 40, MIN, MAX}) {
                due("rule(" + kind + ", " + a + ", 0)", t.rule(kind, a, 0), BAD);
            }
        }
        for (int kind : new int[] {THEN, IF, ELSE, LESS}) {
            for (int b : new int[] {-1, 1, 39, 40, MIN, MAX}) {
                due("rule(" + kind + ", 0, " + b + ")", t.rule(kind, 0, b), BAD);
            }
        }
        for (int a : WRONG_PLACES) {
            due("KEPT", t.rule(KEPT, a, 0), BAD);
            due("SEEN", t.rule(SEEN, a, 0), BAD);
            due("TICK", t.rule(TICK, a, 0), BAD);
        }
        for (int a : WRONG_ROWS) {
            due("ITEM", t.rule(ITEM, a, 0), BAD);
            due("LATE", t.rule(LATE, a, 0), BAD);
        }
        counts(t, 1, 0, 0, 0, 4);
        due("steps()", t.steps(), 0);
    }

    private static void ruleFull() {
        part = "promise 8, FULL";
        TollRules t = new TollRules();
        due("LACK", t.rule(LACK, 0, 0), 0);
        due("TICK", t.rule(TICK, 0, 0), 1);
        for (int k = 2; k < 40; k++) {
            due("rule " + k, t.rule(PLUS, k, 0), k);
        }
        due("PLUS", t.rule(PLUS, 1, 0), FULL);
        due("NOW of LACK: FULL is ahead", t.rule(NOW, 0, 0), FULL);
        due("NOW of TICK: nothing is applied", t.rule(NOW, 1, 0), FULL);
        due("has(0)", t.has(0), 0);
        due("a wrong kind", t.rule(18, 0, 0), BAD);
        due("a wrong a", t.rule(SEEN, 8, 0), BAD);
        due("a wrong b", t.rule(THEN, 0, 40), BAD);
        counts(t, 40, 0, 0, 0, 4);
        gives(t, 39, 1, 40);
    }

    private static void applyNumbers() {
        part = "promise 9, numbers";
        TollRules t = new TollRules();
        t.rule(PLUS, 7, 0);
        t.rule(TIMES, -3, 0);
        t.rule(BY, 4, 0);
        t.rule(REST, 4, 0);
        t.rule(BY, 0, 5);
        t.rule(REST, 0, 5);
        t.rule(BY, -1, 0);
        t.rule(REST, -1, 0);
        t.rule(REST, -4, 0);
        t.rule(TIMES, MAX, 0);
        t.rule(ROOM, 5, 5);
        t.rule(LACK, 5, 5);
        gives(t, 0, 5, 12);
        gives(t, 0, MAX, MIN + 6);
        gives(t, 1, 5, -15);
        gives(t, 9, MAX, 1);
        gives(t, 2, 7, 1);
        gives(t, 2, -7, -1);
        gives(t, 3, 7, 3);
        gives(t, 3, -7, -3);
        gives(t, 8, 7, 3);
        gives(t, 8, -7, -3);
        gives(t, 6, MIN, MIN);
        gives(t, 7, MIN, 0);
        refuses(t, 4, 5, ZERO, 4);
        refuses(t, 5, 0, ZERO, 5);
        gives(t, 10, 0, 0);
        gives(t, 10, 49, 49);
        gives(t, 10, 50, 0);
        gives(t, 10, 77, 27);
        gives(t, 10, MAX, 47);
        gives(t, 10, -50, 0);
        gives(t, 10, -100, 0);
        refuses(t, 10, -1, SIZE, 10);
        refuses(t, 10, -51, SIZE, 10);
        refuses(t, 10, MIN, SIZE, 10);
        refuses(t, 11, 3, NULL, 11);
        int result = t.result();
        for (int rule : new int[] {-1, 12, 39, 40, MIN, MAX}) {
            due("apply(" + rule + ", 0)", t.apply(rule, 0), BAD);
        }
        due("result() behind BAD", t.result(), result);
        due("steps() behind BAD", t.steps(), 1);
    }

    private static void applyBoard() {
        part = "promise 9, the board";
        TollRules t = new TollRules();
        t.place(2, 7);
        t.rule(KEPT, 2, 0);
        t.rule(SEEN, 2, 0);
        t.rule(TICK, 2, 0);
        t.rule(OWN, 5, 0);
        t.rule(OWN, -2, 0);
        t.place(2, 9);
        gives(t, 0, 1, 8);
        gives(t, 1, 1, 10);
        gives(t, 2, 100, 110);
        due("has(2)", t.has(2), 10);
        gives(t, 2, 0, 11);
        gives(t, 1, 0, 11);
        gives(t, 0, 0, 7);
        t.place(2, MAX);
        gives(t, 2, 1, MIN + 1);
        due("has(2)", t.has(2), MIN);
        gives(t, 1, -1, MAX);
        gives(t, 3, 0, 5);
        gives(t, 3, 1, 11);
        gives(t, 4, 0, -2);
        gives(t, 3, 0, 15);
        gives(t, 4, 0, -4);
        due("has(1)", t.has(1), 0);
    }

    private static void applyRows() {
        part = "promise 9, rows";
        TollRules t = new TollRules();
        t.rule(ITEM, 0, 0);
        t.rule(LATE, 0, 0);
        refuses(t, 0, 0, NULL, 0);
        refuses(t, 1, 0, NULL, 1);
        refuses(t, 0, -1, NULL, 0);
        made(t, 0, 3, 4);
        refuses(t, 0, 0, NULL, 0);
        gives(t, 1, 1, 4);
        due("ITEM", t.rule(ITEM, 0, 0), 2);
        gives(t, 2, 1, 4);
        due("put", t.put(0, 1, 40), 1);
        gives(t, 2, 1, 40);
        gives(t, 1, 1, 40);
        for (int x : new int[] {-1, 2, 10, MIN, MAX}) {
            refuses(t, 2, x, INDEX, 2);
            refuses(t, 1, x, INDEX, 1);
        }
        due("share(1, 0)", t.share(1, 0), 1);
        made(t, 0, 8, 9, 10);
        gives(t, 2, 1, 40);
        gives(t, 1, 2, 10);
        due("put by the other name", t.put(1, 0, -6), 1);
        gives(t, 2, 0, -6);
        due("row(0, -1)", t.row(0, -1), 1);
        refuses(t, 1, 0, NULL, 1);
        gives(t, 2, 0, -6);
    }

    private static void applyOthers() {
        part = "promise 9, other rules";
        TollRules t = new TollRules();
        t.rule(PLUS, 3, 0);
        t.rule(TIMES, 2, 0);
        t.rule(REST, 2, 0);
        t.rule(LACK, 0, 0);
        t.rule(TICK, 0, 0);
        due("THEN", t.rule(THEN, 0, 1), 5);
        due("TWICE", t.rule(TWICE, 1, 99), 6);
        due("IF", t.rule(IF, 2, 0), 7);
        due("LESS", t.rule(LESS, 0, 1), 8);
        gives(t, 5, 10, 26);
        due("steps() of THEN", t.steps(), 3);
        gives(t, 6, 5, 20);
        due("steps() of TWICE", t.steps(), 3);
        gives(t, 7, 5, 8);
        due("steps() of IF", t.steps(), 3);
        gives(t, 7, -5, -2);
        gives(t, 7, 6, 6);
        due("steps() of IF, not so", t.steps(), 2);
        gives(t, 8, 2, 4);
        gives(t, 8, 5, 8);
        gives(t, 8, MIN, MIN + 3);
        due("steps() of LESS", t.steps(), 3);
        due("THEN of LACK and TICK", t.rule(THEN, 3, 4), 9);
        refuses(t, 9, 0, NULL, 3);
        due("has(0)", t.has(0), 0);
        due("THEN of TICK and LACK", t.rule(THEN, 4, 3), 10);
        refuses(t, 10, 0, NULL, 3);
        due("what TICK has done stays", t.has(0), 1);
        due("LESS of LACK and TICK", t.rule(LESS, 3, 4), 11);
        refuses(t, 11, 0, NULL, 3);
        due("has(0)", t.has(0), 1);
        due("LESS of TICK and LACK", t.rule(LESS, 4, 3), 12);
        refuses(t, 12, 0, NULL, 3);
        due("has(0)", t.has(0), 2);
        due("IF of LACK", t.rule(IF, 3, 4), 13);
        refuses(t, 13, 0, NULL, 3);
        due("has(0)", t.has(0), 2);
        due("TWICE of LACK", t.rule(TWICE, 3, 0), 14);
        refuses(t, 14, 0, NULL, 3);
        due("steps() of TWICE, refused", t.steps(), 2);
        due("SEEN", t.rule(SEEN, 0, 0), 15);
        due("LESS of SEEN and TICK", t.rule(LESS, 15, 4), 16);
        gives(t, 16, 0, 2);
        due("LESS of TICK and SEEN: a comes first", t.rule(LESS, 4, 15), 17);
        gives(t, 17, 0, 4);
    }

    private static void applyElse() {
        part = "promise 9, ELSE";
        TollRules t = new TollRules();
        t.rule(BY, 0, 0);
        t.rule(ITEM, 0, 0);
        t.row(1, 0);
        t.rule(LATE, 1, 0);
        t.rule(ROOM, 0, 0);
        t.rule(PLUS, 100, 0);
        for (int refused = 0; refused < 4; refused++) {
            due("ELSE", t.rule(ELSE, refused, 4), 5 + refused);
            gives(t, 5 + refused, -7, 93);
            due("steps()", t.steps(), 3);
            due("count(3)", t.count(3), refused + 1);
        }
        due("not FAILED", t.count(2), 0);
        due("failed(0)", t.failed(0), 0);
        due("failed(1)", t.failed(1), -1);
        gives(t, 8, 7, 7);
        due("ELSE that had no need", t.count(3), 4);
        due("steps() then", t.steps(), 2);
        due("THEN: PLUS, BY 0", t.rule(THEN, 4, 0), 9);
        due("TWICE of that", t.rule(TWICE, 9, 0), 10);
        due("ELSE: whatever lies between, of x", t.rule(ELSE, 10, 4), 11);
        gives(t, 11, 1, 101);
        due("steps()", t.steps(), 6);
        due("ELSE with a refused other way", t.rule(ELSE, 1, 0), 12);
        refuses(t, 12, 1, ZERO, 0);
        due("count(3)", t.count(3), 6);
        due("ELSE round it", t.rule(ELSE, 12, 4), 13);
        gives(t, 13, 2, 102);
        due("count(3)", t.count(3), 8);
        due("TICK", t.rule(TICK, 3, 0), 14);
        due("THEN: TICK, BY 0", t.rule(THEN, 14, 0), 15);
        due("ELSE", t.rule(ELSE, 15, 14), 16);
        gives(t, 16, 10, 12);
        due("what TICK had done stays", t.has(3), 2);
    }

    private static void applyNow() {
        part = "promises 8 and 9, NOW";
        TollRules t = new TollRules();
        t.rule(OWN, 5, 0);
        t.rule(TICK, 1, 0);
        t.rule(BY, 0, 0);
        due("THEN: TICK, BY 0", t.rule(THEN, 1, 2), 3);
        due("NOW", t.rule(NOW, 0, 100), 4);
        due("steps() of NOW as it is made", t.steps(), 1);
        due("result() is not touched", t.result(), 0);
        gives(t, 4, -8, 105);
        due("steps() of NOW as it is applied", t.steps(), 1);
        gives(t, 4, 7, 105);
        gives(t, 0, 0, 10);
        due("NOW that is refused", t.rule(NOW, 3, 0), ZERO);
        due("failed(0)", t.failed(0), 1);
        due("failed(1)", t.failed(1), 2);
        due("steps()", t.steps(), 3);
        due("what TICK has done stays", t.has(1), 1);
        due("there is no RULE", t.count(0), 5);
        due("count(2)", t.count(2), 1);
        due("result()", t.result(), 10);
        due("apply(5, 0)", t.apply(5, 0), BAD);
        due("the next RULE", t.rule(PLUS, 1, 0), 5);
        due("NOW of NOW", t.rule(NOW, 4, 3), 6);
        gives(t, 6, 0, 105);
    }

    private static void applySpent() {
        part = "promise 9, SPENT";
        TollRules t = new TollRules();
        t.rule(TICK, 0, 0);
        for (int k = 1; k <= 6; k++) {
            due("TWICE", t.rule(TWICE, k - 1, 0), k);
        }
        gives(t, 5, 0, 528);
        due("steps()", t.steps(), 63);
        due("THEN: 1 + 63 + the 65th", t.rule(THEN, 5, 0), 7);
        refuses(t, 7, 0, SPENT, 0);
        due("steps()", t.steps(), 64);
        due("has(0)", t.has(0), 64);
        refuses(t, 6, 0, SPENT, 5);
        due("has(0): what is spent stays done", t.has(0), 96);
        due("ELSE does not meet SPENT", t.rule(ELSE, 6, 0), 8);
        refuses(t, 8, 0, SPENT, 0);
        due("count(3)", t.count(3), 0);
        due("LACK", t.rule(LACK, 0, 0), 9);
        due("THEN: 1 + 63, then LACK is not begun", t.rule(THEN, 5, 9), 10);
        refuses(t, 10, 0, SPENT, 9);
        due("the next call has all STEPS again", t.apply(5, 0), 1);
        due("IF: 1 + 63, then b is not begun", t.rule(IF, 5, 9), 11);
        refuses(t, 11, 0, SPENT, 9);
        due("LESS: likewise", t.rule(LESS, 5, 9), 12);
        refuses(t, 12, 0, SPENT, 9);
        due("NOW of SPENT", t.rule(NOW, 6, 0), SPENT);
        due("failed(1)", t.failed(1), 5);
        due("count(0)", t.count(0), 13);
    }

    private static void each() {
        part = "promise 10";
        TollRules t = new TollRules();
        t.rule(TIMES, 2, 0);
        t.rule(BY, 0, 0);
        t.rule(ITEM, 0, 0);
        made(t, 1, 3, -4, 0);
        t.share(2, 1);
        due("each(0, 1)", t.each(0, 1), 3);
        stands(t, 1, 6, -8, 0);
        stands(t, 2, 6, -8, 0);
        due("steps()", t.steps(), 3);
        due("result()", t.result(), 0);
        due("each of NOTHING", t.each(0, 3), NULL);
        due("steps() stay", t.steps(), 3);
        due("not FAILED", t.count(2), 0);
        due("failed(0)", t.failed(0), 0);
        for (int rule : WRONG_RULES) {
            due("each(" + rule + ", 1)", t.each(rule, 1), BAD);
            due("each(" + rule + ", 3)", t.each(rule, 3), BAD);
        }
        for (int r : WRONG_ROWS) {
            due("each(0, " + r + ")", t.each(0, r), BAD);
        }
        due("each(3, 1)", t.each(3, 1), BAD);
        stands(t, 1, 6, -8, 0);
        due("row(3, 0)", t.row(3, 0), 1);
        due("each of a row without items", t.each(0, 3), 0);
        due("steps() of that", t.steps(), 0);
        due("each(1, 1)", t.each(1, 1), ZERO);
        due("failed(1)", t.failed(1), 1);
        stands(t, 1, 6, -8, 0);
        due("LATE", t.rule(LATE, 1, 0), 3);
        made(t, 1, 1, 2, 7, 0);
        due("each by its own items, refused at the third", t.each(3, 1), INDEX);
        stands(t, 1, 2, 7, 7, 0);
        due("steps()", t.steps(), 3);
        made(t, 1, 1, 2, 0);
        due("each by its own items as they become", t.each(3, 1), 3);
        stands(t, 1, 2, 0, 2);
        eachSpent();
    }

    private static void eachSpent() {
        TollRules t = new TollRules();
        t.rule(TICK, 0, 0);
        t.rule(TWICE, 0, 0);
        t.rule(TWICE, 1, 0);
        due("row(0, 10)", t.row(0, 10), 1);
        due("each, 7 STEPS an item", t.each(2, 0), SPENT);
        due("failed(0)", t.failed(0), 5);
        due("failed(1)", t.failed(1), 1);
        due("steps()", t.steps(), 64);
        due("has(0)", t.has(0), 9 * 4);
        due("item(0, 0)", t.item(0, 0), 10);
        due("item(0, 8)", t.item(0, 8), 33 + 34 + 35 + 36);
        due("item(0, 9)", t.item(0, 9), 0);
    }

    private static void keep() {
        part = "promise 11";
        TollRules t = new TollRules();
        t.rule(REST, 2, 0);
        t.rule(BY, 0, 0);
        t.rule(LATE, 0, 0);
        made(t, 0, 3, 4, -5, 6, 3);
        t.share(1, 0);
        due("keep(0, 0)", t.keep(0, 0), 3);
        stands(t, 0, 3, -5, 3);
        stands(t, 1, 3, 4, -5, 6, 3);
        due("steps()", t.steps(), 5);
        t.share(2, 0);
        due("keep all: a new one", t.keep(0, 0), 3);
        due("put", t.put(0, 0, 11), 1);
        stands(t, 0, 11, -5, 3);
        stands(t, 2, 3, -5, 3);
        made(t, 0, 2, 4);
        due("keep none", t.keep(0, 0), 0);
        stands(t, 0);
        due("it is no NOTHING", t.count(4), 1);
        due("keep of none", t.keep(1, 0), 0);
        due("steps() of that", t.steps(), 0);
        due("keep(0, 1)", t.keep(0, 1), 3);
        due("keep of NOTHING", t.keep(0, 3), NULL);
        due("steps() stay", t.steps(), 5);
        due("not FAILED", t.count(2), 0);
        made(t, 0, 1, 2, 0);
        due("keep by its own items, as they were", t.keep(2, 0), 2);
        stands(t, 0, 1, 0);
        made(t, 0, 1, 2, 7);
        t.share(3, 0);
        due("keep, refused", t.keep(2, 0), INDEX);
        due("failed(1)", t.failed(1), 2);
        due("put", t.put(3, 0, 9), 1);
        stands(t, 0, 9, 2, 7);
        for (int rule : WRONG_RULES) {
            due("keep(" + rule + ", 0)", t.keep(rule, 0), BAD);
        }
        for (int r : WRONG_ROWS) {
            due("keep(0, " + r + ")", t.keep(0, r), BAD);
        }
        due("keep(3, 0)", t.keep(3, 0), BAD);
        stands(t, 0, 9, 2, 7);
        due("result()", t.result(), 0);
    }

    private static void order() {
        part = "promise 12";
        TollRules t = new TollRules();
        t.rule(PLUS, 0, 0);
        t.rule(REST, 10, 0);
        t.rule(TIMES, -1, 0);
        t.rule(LATE, 0, 0);
        t.rule(TICK, 5, 0);
        made(t, 0, 5, MIN, 3, MAX, -1);
        t.share(1, 0);
        due("order(0, 0)", t.order(0, 0), 4);
        stands(t, 0, MIN, -1, 3, 5, MAX);
        stands(t, 1, MIN, -1, 3, 5, MAX);
        due("steps()", t.steps(), 5);
        due("order again", t.order(0, 0), 0);
        made(t, 0, 21, 11, 30, 1, 20);
        due("like ones as they stood", t.order(1, 0), 5);
        stands(t, 0, 30, 20, 21, 11, 1);
        made(t, 0, 7, 7, 7, 2);
        due("like ones that stand elsewhere are told", t.order(0, 0), 4);
        stands(t, 0, 2, 7, 7, 7);
        due("the other way round", t.order(2, 0), 4);
        stands(t, 0, 7, 7, 7, 2);
        made(t, 0, 2, 0, 1);
        due("asked ahead: keys 1, 2, 0", t.order(3, 0), 3);
        stands(t, 0, 1, 2, 0);
        made(t, 0, 1, 2, 3);
        due("refused", t.order(3, 0), INDEX);
        due("failed(1)", t.failed(1), 3);
        due("steps()", t.steps(), 3);
        stands(t, 0, 1, 2, 3);
        made(t, 0, 4, 3, 2, 1, 0);
        due("order by TICK: asked once of each", t.order(4, 0), 0);
        due("has(5)", t.has(5), 5);
        due("order of NOTHING", t.order(0, 2), NULL);
        due("steps() stay", t.steps(), 5);
        due("count(2)", t.count(2), 1);
        due("row(2, 0)", t.row(2, 0), 1);
        due("order of none", t.order(0, 2), 0);
        due("steps() of that", t.steps(), 0);
        for (int rule : WRONG_RULES) {
            due("order(" + rule + ", 0)", t.order(rule, 0), BAD);
        }
        for (int r : WRONG_ROWS) {
            due("order(0, " + r + ")", t.order(0, r), BAD);
        }
        due("order(5, 0)", t.order(5, 0), BAD);
        due("result()", t.result(), 0);
    }

    private static void folds(TollRules t, int how, int r, int x, int want) {
        due("fold(" + how + ", " + r + ", " + x + ")", t.fold(how, r, x), 1);
        due("result() of fold(" + how + ", " + r + ", " + x + ")", t.result(), want);
    }

    private static void fold() {
        part = "promise 13";
        TollRules t = new TollRules();
        t.rule(PLUS, 1, 0);
        t.apply(0, 0);
        made(t, 0, 3, -2, 4);
        folds(t, 0, 0, 10, 15);
        folds(t, 1, 0, 1, 4);
        folds(t, 1, 0, 9, 9);
        folds(t, 2, 0, 1, ((31 + 3) * 31 - 2) * 31 + 4);
        folds(t, 3, 0, 10, 4 - (-2 - (3 - 10)));
        folds(t, 4, 0, 100, 100 / 3 / -2 / 4);
        folds(t, 4, 0, -100, -100 / 3 / -2 / 4);
        made(t, 1, MAX, MAX);
        folds(t, 0, 1, 3, 1);
        folds(t, 3, 1, MIN, MIN);
        folds(t, 2, 1, MAX, (31 * MAX + MAX) * 31 + MAX);
        made(t, 1, -1);
        folds(t, 4, 1, MIN, MIN);
        folds(t, 1, 1, MIN, -1);
        due("row(2, 0)", t.row(2, 0), 1);
        for (int how = 0; how <= 4; how++) {
            folds(t, how, 2, 17 + how, 17 + how);
            due("fold of NOTHING", t.fold(how, 3, 1), NULL);
        }
        due("no STEPS of fold()", t.steps(), 1);
        due("not FAILED", t.count(2), 0);
        made(t, 1, 2, 0, 5);
        due("fold by 0", t.fold(4, 1, 100), ZERO);
        due("failed(0)", t.failed(0), 1);
        due("failed(1)", t.failed(1), -1);
        due("count(2)", t.count(2), 1);
        due("result()", t.result(), 21);
        due("steps()", t.steps(), 1);
        folds(t, 0, 1, 0, 7);
        for (int how : new int[] {-1, 5, MIN, MAX}) {
            due("fold(" + how + ", 0, 1)", t.fold(how, 0, 1), BAD);
            due("fold(" + how + ", 3, 1)", t.fold(how, 3, 1), BAD);
        }
        for (int r : WRONG_ROWS) {
            due("fold(0, " + r + ", 1)", t.fold(0, r, 1), BAD);
        }
        due("result() behind BAD", t.result(), 7);
        stands(t, 1, 2, 0, 5);
    }

    private static void until() {
        part = "promise 14";
        TollRules t = new TollRules();
        t.rule(PLUS, 1, 0);
        t.rule(REST, 5, 0);
        t.rule(TICK, 0, 0);
        t.rule(BY, 0, 0);
        t.rule(LATE, 0, 0);
        due("until", t.until(0, 1, 2, 30), 3);
        due("result()", t.result(), 5);
        due("steps()", t.steps(), 6);
        due("the test is not asked ahead", t.until(0, 1, 5, 30), 5);
        due("result()", t.result(), 10);
        due("most", t.until(0, 1, 0, 3), 3);
        due("result()", t.result(), 3);
        due("the test is asked behind the last too", t.steps(), 6);
        due("most 1", t.until(0, 1, 1, 1), 1);
        due("result()", t.result(), 2);
        due("most 30", t.until(0, 2, 0, 30), 30);
        due("result()", t.result(), 30);
        due("steps()", t.steps(), 60);
        due("has(0)", t.has(0), 30);
        due("one RULE for both", t.until(0, 0, -4, 30), 3);
        due("result()", t.result(), -1);
        due("RULE refused", t.until(3, 0, 1, 5), ZERO);
        due("steps()", t.steps(), 1);
        due("test refused", t.until(0, 3, 1, 5), ZERO);
        due("steps()", t.steps(), 2);
        due("failed(1)", t.failed(1), 3);
        made(t, 0, 1, 2, 9);
        due("refused at the third", t.until(4, 0, 0, 30), INDEX);
        due("steps()", t.steps(), 7);
        due("failed(1)", t.failed(1), 4);
        due("result()", t.result(), -1);
        due("TWICE", t.rule(TWICE, 0, 0), 5);
        due("SPENT over all rounds", t.until(5, 0, 0, 30), SPENT);
        due("failed(1)", t.failed(1), 5);
        due("steps()", t.steps(), 64);
        due("16 rounds of 4 STEPS", t.until(5, 0, 0, 16), 16);
        due("result()", t.result(), 32);
        for (int most : new int[] {0, -1, 31, MIN, MAX}) {
            due("until(0, 1, 2, " + most + ")", t.until(0, 1, 2, most), BAD);
        }
        for (int rule : new int[] {-1, 6, 40, MIN, MAX}) {
            due("until(" + rule + ", 1, 2, 3)", t.until(rule, 1, 2, 3), BAD);
            due("until(0, " + rule + ", 2, 3)", t.until(0, rule, 2, 3), BAD);
        }
        due("result() behind BAD", t.result(), 32);
        due("steps() behind BAD", t.steps(), 64);
        due("count(2)", t.count(2), 4);
    }

    private static void result() {
        part = "promise 15";
        TollRules t = new TollRules();
        due("result() before", t.result(), 0);
        t.rule(PLUS, 4, 0);
        t.rule(LACK, 0, 0);
        t.row(0, 2);
        due("apply", t.apply(0, 1), 1);
        due("result()", t.result(), 5);
        due("each", t.each(0, 0), 2);
        due("order", t.order(0, 0), 0);
        due("keep", t.keep(0, 0), 2);
        due("NOW", t.rule(NOW, 0, 50), 2);
        due("result() of none of these", t.result(), 5);
        due("fold", t.fold(0, 0, 1), 1);
        due("result()", t.result(), 9);
        due("until", t.until(0, 0, 1, 2), 2);
        due("result()", t.result(), 9);
        due("apply, refused", t.apply(1, 0), NULL);
        due("until, refused", t.until(1, 0, 3, 1), NULL);
        due("until, its test refused", t.until(0, 1, 3, 1), NULL);
        due("fold of NOTHING", t.fold(0, 1, 70), NULL);
        due("result()", t.result(), 9);
        due("result() again", t.result(), 9);
    }

    private static void steps() {
        part = "promise 16";
        TollRules t = new TollRules();
        due("steps() before", t.steps(), 0);
        t.rule(PLUS, 4, 0);
        t.rule(LACK, 0, 0);
        t.rule(THEN, 0, 1);
        due("steps() of rules but NOW", t.steps(), 0);
        t.row(0, 4);
        due("apply", t.apply(0, 1), 1);
        due("steps()", t.steps(), 1);
        due("each", t.each(0, 0), 4);
        due("steps()", t.steps(), 4);
        due("apply, refused", t.apply(2, 1), NULL);
        due("steps()", t.steps(), 3);
        due("keep", t.keep(0, 0), 4);
        due("steps()", t.steps(), 4);
        due("NOW", t.rule(NOW, 0, 0), 3);
        due("steps()", t.steps(), 1);
        due("order", t.order(0, 0), 0);
        due("steps()", t.steps(), 4);
        due("NOW, refused", t.rule(NOW, 2, 0), NULL);
        due("steps()", t.steps(), 3);
        due("until", t.until(0, 0, 0, 3), 3);
        due("steps()", t.steps(), 6);
        t.fold(0, 0, 0);
        t.place(0, 1);
        t.rule(PLUS, 1, 0);
        t.rule(NOW, -1, 0);
        t.apply(-1, 0);
        t.each(0, 3);
        t.row(0, 0);
        due("steps() behind others", t.steps(), 6);
        due("count(1)", t.count(1), 1 + 4 + 3 + 4 + 1 + 4 + 3 + 6);
    }

    private static void failed() {
        part = "promise 17";
        TollRules t = new TollRules();
        due("failed(0) before", t.failed(0), 0);
        due("failed(1) before", t.failed(1), -1);
        t.rule(PLUS, 1, 0);
        t.rule(BY, 0, 0);
        t.rule(LATE, 0, 0);
        t.rule(LACK, 0, 0);
        t.rule(ROOM, 0, 0);
        t.row(0, 1);
        refuses(t, 1, 1, ZERO, 1);
        refuses(t, 2, 1, INDEX, 2);
        refuses(t, 3, 1, NULL, 3);
        refuses(t, 4, -1, SIZE, 4);
        due("apply", t.apply(0, 1), 1);
        due("failed(0) stays", t.failed(0), 4);
        due("failed(1) stays", t.failed(1), 4);
        due("THEN", t.rule(THEN, 0, 1), 5);
        due("TWICE", t.rule(TWICE, 5, 0), 6);
        refuses(t, 6, 1, ZERO, 1);
        due("each", t.each(3, 0), NULL);
        due("failed(1)", t.failed(1), 3);
        due("keep", t.keep(1, 0), ZERO);
        due("failed(1)", t.failed(1), 1);
        due("order", t.order(3, 0), NULL);
        due("failed(0)", t.failed(0), 3);
        due("fold", t.fold(4, 0, 1), ZERO);
        due("failed(0)", t.failed(0), 1);
        due("failed(1)", t.failed(1), -1);
        due("until", t.until(3, 0, 0, 1), NULL);
        due("failed(1)", t.failed(1), 3);
        due("put", t.put(0, 5, 5), INDEX);
        due("each of NOTHING", t.each(1, 1), NULL);
        due("failed(0) stays", t.failed(0), 3);
        due("count(2)", t.count(2), 10);
        for (int what : new int[] {-1, 2, MIN, MAX}) {
            due("failed(" + what + ")", t.failed(what), BAD);
        }
    }

    private static void count() {
        part = "promise 18";
        TollRules t = new TollRules();
        counts(t, 0, 0, 0, 0, 4);
        t.rule(BY, 0, 0);
        t.rule(PLUS, 1, 0);
        t.rule(ELSE, 0, 1);
        t.row(0, 3);
        t.share(1, 0);
        counts(t, 3, 0, 0, 0, 2);
        due("each", t.each(2, 1), 3);
        counts(t, 3, 9, 0, 3, 2);
        due("apply", t.apply(0, 0), ZERO);
        counts(t, 3, 10, 1, 3, 2);
        due("NOW", t.rule(NOW, 2, 0), 3);
        counts(t, 4, 13, 1, 4, 2);
        t.row(1, -1);
        counts(t, 4, 13, 1, 4, 3);
        due("ELSE, both refused", t.rule(ELSE, 0, 0), 4);
        due("apply", t.apply(4, 0), ZERO);
        counts(t, 5, 16, 2, 5, 3);
        for (int what : new int[] {-1, 5, MIN, MAX}) {
            due("count(" + what + ")", t.count(what), BAD);
        }
    }

    /** All of the 512 calls that an object is used for may be the dearest ones. */
    private static void longUse() {
        part = "512 calls";
        TollRules t = new TollRules();
        t.rule(TICK, 0, 0);
        for (int k = 1; k < 40; k++) {
            t.rule(TWICE, k - 1, 0);
        }
        for (int call = 40; call < 508; call++) {
            due("apply(39, 0)", t.apply(39, 0), SPENT);
        }
        due("count(1)", t.count(1), 468 * 64);
        due("count(2)", t.count(2), 468);
        due("failed(0)", t.failed(0), 5);
    }
}
