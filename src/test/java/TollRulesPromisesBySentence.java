import java.io.IOException;

/** The promises of the document, sentence by sentence, with the boundary cases that each names. */
public final class TollRulesPromisesBySentence extends Sentences {
    public static void main(String[] args) throws IOException {
        runAll("Promise .*", TollRulesPromisesBySentence::newObjectPromise, TollRulesPromisesBySentence::placePromise,
                TollRulesPromisesBySentence::hasPromise, TollRulesPromisesBySentence::rowPromise,
                TollRulesPromisesBySentence::sharePromise, TollRulesPromisesBySentence::putPromise,
                TollRulesPromisesBySentence::itemPromise, TollRulesPromisesBySentence::rulePromise,
                TollRulesPromisesBySentence::applyPromise, TollRulesPromisesBySentence::eachPromise,
                TollRulesPromisesBySentence::keepPromise, TollRulesPromisesBySentence::orderPromise,
                TollRulesPromisesBySentence::foldPromise, TollRulesPromisesBySentence::untilPromise,
                TollRulesPromisesBySentence::resultPromise, TollRulesPromisesBySentence::stepsPromise,
                TollRulesPromisesBySentence::failedPromise, TollRulesPromisesBySentence::countPromise);
    }

    // Promises 1 to 3

    private static void newObjectPromise() {
        section("Promise 1: A new object");
        TollRules t = says("No RULES.");
        due("count(0)", t.count(0), 0);
        due("row(0, 1)", t.row(0, 1), 1);
        due("apply(0, 0)", t.apply(0, 0), BAD);
        due("each(0, 0)", t.each(0, 0), BAD);
        due("keep(0, 0)", t.keep(0, 0), BAD);
        due("order(0, 0)", t.order(0, 0), BAD);
        due("until(0, 0, 0, 1)", t.until(0, 0, 0, 1), BAD);
        due("rule(TWICE, 0, 0)", t.rule(TWICE, 0, 0), BAD);
        due("the first RULE", t.rule(PLUS, 0, 0), 0);
        due("count(0) of another new object", new TollRules().count(0), 0);
    }

    private static void placePromise() {
        section("Promise 2: place");
        TollRules t = says("A PLACE has v: what it had.");
        for (int p = 0; p <= 7; p++) {
            due("place(" + p + ", MIN)", t.place(p, MIN), 0);
            due("place(" + p + ", ..)", t.place(p, p), MIN);
            due("place(" + p + ", ..) again", t.place(p, p), p);
        }
        for (int p = 0; p <= 7; p++) {
            due("place(" + p + ", MAX)", t.place(p, MAX), p);
        }
        says("NONE: there is no such one.");
        for (int p : NO_PLACES) {
            unchanged("place(" + p + ", 5)", b -> b.place(p, 5), NONE);
        }
    }

    private static void hasPromise() {
        section("Promise 3: has");
        TollRules t = says("What a PLACE has.");
        for (int p = 0; p <= 7; p++) {
            due("has(" + p + ")", t.has(p), 0);
            t.place(p, MIN + p);
        }
        for (int p = 0; p <= 7; p++) {
            due("has(" + p + ")", t.has(p), MIN + p);
            due("has(" + p + ") again", t.has(p), MIN + p);
        }
        says("NONE.");
        for (int p : NO_PLACES) {
            unchanged("has(" + p + ")", b -> b.has(p), NONE);
        }
    }

    // Promises 4 to 7

    private static void rowPromise() {
        section("Promise 4: row");
        TollRules t = says("ROW r becomes a new one of n ints, 0 (0 to 10), or NOTHING (n -1): 1.");
        for (int n = 0; n <= 10; n++) {
            due("row(3, " + n + ")", t.row(3, n), 1);
            stands(t, 3, new int[n]);
            if (n > 0) {
                due("put(3, " + (n - 1) + ", 5)", t.put(3, n - 1, 5), 1);
            }
        }
        due("row(3, 10)", t.row(3, 10), 1);
        stands(t, 3, new int[10]);
        made(t, 0, 6, 7);
        due("share(1, 0)", t.share(1, 0), 1);
        due("row(0, 2)", t.row(0, 2), 1);
        stands(t, 0, 0, 0);
        stands(t, 1, 6, 7);
        due("row(1, -1)", t.row(1, -1), 1);
        isNothing(t, 1);
        due("row(1, -1) again", t.row(1, -1), 1);
        isNothing(t, 1);
        stands(t, 0, 0, 0);

        says("BAD.");
        for (int n : new int[] {-2, 11, MIN, MAX}) {
            unchanged("row(0, " + n + ")", b -> b.row(0, n), BAD);
            unchanged("row(3, " + n + ")", b -> b.row(3, n), BAD);
        }
        for (int r : NO_ROWS) {
            unchanged("row(" + r + ", 0)", b -> b.row(r, 0), BAD);
            unchanged("row(" + r + ", -1)", b -> b.row(r, -1), BAD);
        }
    }

    private static void sharePromise() {
        section("Promise 5: share");
        TollRules t = says("ROW r becomes the very one that ROW q is: 1;");
        made(t, 0, 4, 5);
        due("share(3, 0)", t.share(3, 0), 1);
        due("put(3, 0, 9)", t.put(3, 0, 9), 1);
        stands(t, 0, 9, 5);
        due("put(0, 1, 8)", t.put(0, 1, 8), 1);
        stands(t, 3, 9, 8);
        due("share(3, 3)", t.share(3, 3), 1);
        stands(t, 3, 9, 8);
        due("row(0, 0)", t.row(0, 0), 1);
        stands(t, 3, 9, 8);
        due("share(3, 0), without items", t.share(3, 0), 1);
        stands(t, 3);

        t = says("0: that is NOTHING.");
        made(t, 0, 4, 5);
        due("share(1, 0)", t.share(1, 0), 1);
        due("share(0, 2)", t.share(0, 2), 0);
        isNothing(t, 0);
        stands(t, 1, 4, 5);
        due("share(2, 2)", t.share(2, 2), 0);
        due("share(2, 3)", t.share(2, 3), 0);
        isNothing(t, 2);
        due("count(4)", t.count(4), 3);

        says("BAD.");
        for (int r : NO_ROWS) {
            unchanged("share(" + r + ", 0)", b -> b.share(r, 0), BAD);
            unchanged("share(0, " + r + ")", b -> b.share(0, r), BAD);
            unchanged("share(" + r + ", 3), that is NOTHING", b -> b.share(r, 3), BAD);
            unchanged("share(" + r + ", " + r + ")", b -> b.share(r, r), BAD);
        }
    }

    private static void putPromise() {
        section("Promise 6: put");
        TollRules t = says("Item i of a ROW becomes v: 1.");
        due("row(2, 10)", t.row(2, 10), 1);
        due("put(2, 0, MIN)", t.put(2, 0, MIN), 1);
        due("put(2, 9, MAX)", t.put(2, 9, MAX), 1);
        due("put(2, 5, 3)", t.put(2, 5, 3), 1);
        stands(t, 2, MIN, 0, 0, 0, 0, 3, 0, 0, 0, MAX);
        due("put(2, 5, 0)", t.put(2, 5, 0), 1);
        stands(t, 2, MIN, 0, 0, 0, 0, 0, 0, 0, 0, MAX);

        says("BAD: no ROW;");
        for (int r : NO_ROWS) {
            unchanged("put(" + r + ", 0, 1)", b -> b.put(r, 0, 1), BAD);
            unchanged("put(" + r + ", -1, 1)", b -> b.put(r, -1, 1), BAD);
        }
        says("NULL;");
        unchanged("put(3, 0, 1)", b -> b.put(3, 0, 1), NULL);
        unchanged("put(3, -1, 1)", b -> b.put(3, -1, 1), NULL);
        unchanged("put(3, 10, 1)", b -> b.put(3, 10, 1), NULL);

        says("INDEX (neither counts as FAILED).");
        for (int i : NO_ITEMS_OF_4) {
            unchanged("put(0, " + i + ", 1)", b -> b.put(0, i, 1), INDEX);
        }
        unchanged("put(2, 0, 1), without items", b -> b.put(2, 0, 1), INDEX);
        t = new TollRules();
        due("put(0, 0, 1)", t.put(0, 0, 1), NULL);
        due("row(0, 0)", t.row(0, 0), 1);
        due("put(0, 0, 1)", t.put(0, 0, 1), INDEX);
        due("failed(0)", t.failed(0), 0);
        due("failed(1)", t.failed(1), -1);
        due("count(2)", t.count(2), 0);
    }

    private static void itemPromise() {
        section("Promise 7: item");
        TollRules t = says("Item i of a ROW.");
        made(t, 3, MIN, 1, 2, 3, 4, 5, 6, 7, 8, MAX);
        stands(t, 3, MIN, 1, 2, 3, 4, 5, 6, 7, 8, MAX);

        says("NONE: there is none such.");
        for (int i : NO_ITEMS_OF_4) {
            unchanged("item(0, " + i + ")", b -> b.item(0, i), NONE);
            unchanged("item(3, " + i + ") of NOTHING", b -> b.item(3, i), NONE);
        }
        unchanged("item(2, 0), without items", b -> b.item(2, 0), NONE);
        for (int r : NO_ROWS) {
            unchanged("item(" + r + ", 0)", b -> b.item(r, 0), NONE);
        }
    }

    // Promise 8

    private static void rulePromise() {
        section("Promise 8: rule");
        TollRules t = says("A RULE: its number.");
        due("rule(PLUS, 0, 0)", t.rule(PLUS, 0, 0), 0);
        for (int kind = 0; kind <= 17; kind++) {
            due("rule(" + kind + ", 0, 0)", t.rule(kind, 0, 0), kind + 1);
            due("a wrong one takes no number", t.rule(TWICE, 40, 0), BAD);
        }

        says("BAD: KIND;");
        for (int kind : new int[] {-1, 18, MIN, MAX}) {
            unchanged("rule(" + kind + ", 0, 0)", b -> b.rule(kind, 0, 0), BAD);
        }
        rulesOfRules();
        rulesOfPlacesAndRows();
        rulesOfAnyInt();
        rulesOfAFullObject();
        rulesOfNow();
    }

    private static void rulesOfRules() {
        TollRules t = says("a, of 8 to 11, 14, 16 a RULE,");
        t.rule(PLUS, 0, 0);
        for (int kind : new int[] {THEN, TWICE, IF, ELSE, NOW, LESS}) {
            due("rule(" + kind + ", 0, 0)", t.rule(kind, 0, 0), t.count(0) - 1);
            due("of the last RULE", t.rule(kind, t.count(0) - 1, 0), t.count(0) - 1);
            due("of itself", t.rule(kind, t.count(0), 0), BAD);
            for (int a : NO_RULES) {
                unchanged("rule(" + kind + ", " + a + ", 0)", b -> b.rule(kind, a, 0), BAD);
            }
        }

        t = says("b, of 8, 10, 11, 16 a RULE");
        t.rule(PLUS, 0, 0);
        for (int kind : new int[] {THEN, IF, ELSE, LESS}) {
            due("rule(" + kind + ", 0, 0)", t.rule(kind, 0, 0), t.count(0) - 1);
            due("of the last RULE", t.rule(kind, 0, t.count(0) - 1), t.count(0) - 1);
            due("of itself", t.rule(kind, 0, t.count(0)), BAD);
            for (int b : NO_RULES) {
                unchanged("rule(" + kind + ", 0, " + b + ")", o -> o.rule(kind, 0, b), BAD);
            }
        }
    }

    private static void rulesOfPlacesAndRows() {
        TollRules t = says("of 4, 5, 12 a PLACE,");
        for (int kind : new int[] {KEPT, SEEN, TICK}) {
            due("rule(" + kind + ", 0, 0)", t.rule(kind, 0, 0), t.count(0) - 1);
            due("rule(" + kind + ", 7, 0)", t.rule(kind, 7, 0), t.count(0) - 1);
            for (int a : NO_PLACES) {
                unchanged("rule(" + kind + ", " + a + ", 0)", b -> b.rule(kind, a, 0), BAD);
            }
        }

        t = says("of 6, 7 a ROW;");
        for (int kind : new int[] {ITEM, LATE}) {
            due("rule(" + kind + ", 0, 0)", t.rule(kind, 0, 0), t.count(0) - 1);
            due("rule(" + kind + ", 3, 0)", t.rule(kind, 3, 0), t.count(0) - 1);
            for (int a : NO_ROWS) {
                unchanged("rule(" + kind + ", " + a + ", 0)", b -> b.rule(kind, a, 0), BAD);
            }
        }
    }

    private static void rulesOfAnyInt() {
        says("(others: any int, also where it is not looked at);");
        for (int any : new int[] {0, -1, 40, MIN, MAX}) {
            TollRules t = new TollRules();
            for (int kind : new int[] {PLUS, TIMES, BY, REST, OWN, ROOM, LACK}) {
                due("rule(" + kind + ", " + any + ", " + any + ")", t.rule(kind, any, any), t.count(0) - 1);
            }
            for (int kind : new int[] {KEPT, SEEN, ITEM, LATE, TWICE, TICK, NOW}) {
                due("rule(" + kind + ", 0, " + any + ")", t.rule(kind, 0, any), t.count(0) - 1);
            }
        }
    }

    private static void rulesOfAFullObject() {
        says("FULL, ahead of FAILURES:");
        unchangedIfFull("NOW of BY 0, of 40", t -> t.rule(NOW, 1, 0), FULL);
        unchangedIfFull("NOW of TICK, of 40", t -> t.rule(NOW, 3, 0), FULL);
        unchangedIfFull("a wrong KIND, of 40", t -> t.rule(18, 0, 0), BAD);
        unchangedIfFull("a wrong a, of 40", t -> t.rule(TWICE, 40, 0), BAD);
        unchangedIfFull("a wrong b, of 40", t -> t.rule(THEN, 0, 40), BAD);
        for (int kind = 0; kind <= 17; kind++) {
            TollRules t = full(busy());
            due("rule(" + kind + ", 0, 0), of 40", t.rule(kind, 0, 0), FULL);
            due("count(0)", t.count(0), 40);
        }
        TollRules t = new TollRules();
        for (int k = 0; k < 39; k++) {
            t.rule(LACK, 0, 0);
        }
        due("NOW of LACK, of 39", t.rule(NOW, 38, 0), NULL);
        due("PLUS, of 39", t.rule(PLUS, 0, 0), 39);
        due("NOW of LACK, of 40", t.rule(NOW, 38, 0), FULL);
        due("count(2)", t.count(2), 1);
    }

    private static void rulesOfNow() {
        TollRules t = says("of NOW, as in apply();");
        due("row(0, 0)", t.row(0, 0), 1);
        int[] refused = {make(t, BY, 0), make(t, LATE, 0), make(t, LACK, 0), make(t, ROOM, 0), taking(t, 65)};
        int thenRoom = make(t, THEN, make(t, PLUS, -1), refused[3]);
        for (int kind = 1; kind <= 5; kind++) {
            due("NOW, FAILURE " + kind, t.rule(NOW, refused[kind - 1], -1), -10 - kind);
            due("failed(0)", t.failed(0), kind);
            due("count(2)", t.count(2), kind);
            due("steps()", t.steps(), kind == 5 ? 64 : 1);
        }
        due("NOW of THEN, SIZE", t.rule(NOW, thenRoom, 0), SIZE);
        due("failed(1)", t.failed(1), refused[3]);
        due("steps()", t.steps(), 3);
        due("count(1)", t.count(1), 1 + 1 + 1 + 1 + 64 + 3);

        t = says("then there is no RULE.");
        int lack = make(t, LACK, 0);
        due("NOW of LACK", t.rule(NOW, lack, 0), NULL);
        due("count(0)", t.count(0), 1);
        due("apply(1, 0)", t.apply(1, 0), BAD);
        due("the next RULE", t.rule(PLUS, 5, 0), 1);
        gives(t, 1, 1, 6);
    }

    // Promise 9

    private static void applyPromise() {
        section("Promise 9: apply");
        TollRules t = says("A RULE is applied to x: 1;");
        int tick = make(t, TICK, 0);
        due("apply", t.apply(tick, MIN), 1);
        due("has(0)", t.has(0), 1);
        full(t);
        due("apply of the last RULE", t.apply(39, 0), 1);

        says("result() is what it gives.");
        due("result()", t.result(), 39);
        gives(t, 39, MIN, MIN + 39);
        gives(t, 39, -39, 0);

        says("BAD;");
        for (int rule : NO_RULES) {
            unchanged("apply(" + rule + ", 0)", b -> b.apply(rule, 0), BAD);
        }

        t = says("FAILURES.");
        due("row(0, 0)", t.row(0, 0), 1);
        int[] refused = {make(t, BY, 0), make(t, LATE, 0), make(t, LACK, 0), make(t, ROOM, 0)};
        for (int kind = 1; kind <= 4; kind++) {
            refuses(t, refused[kind - 1], -1, -10 - kind, refused[kind - 1]);
        }
        int plus = make(t, PLUS, 1);
        refuses(t, make(t, THEN, taking(t, 63), plus), 0, SPENT, plus);
    }

    // Promises 10 to 12

    private static void eachPromise() {
        section("Promise 10: each");
        TollRules t = says("Each item of a ROW, in order, becomes what a RULE gives of it: how many.");
        int tick = make(t, TICK, 0);
        due("row(0, 10)", t.row(0, 10), 1);
        due("share(3, 0)", t.share(3, 0), 1);
        due("each of 10 items", t.each(tick, 0), 10);
        stands(t, 0, 1, 2, 3, 4, 5, 6, 7, 8, 9, 10);
        stands(t, 3, 1, 2, 3, 4, 5, 6, 7, 8, 9, 10);
        due("row(1, 0)", t.row(1, 0), 1);
        due("each without items", t.each(tick, 1), 0);
        due("has(0)", t.has(0), 10);
        stands(t, 1);
        int late = make(t, LATE, 2);
        made(t, 2, 1, 2, 0);
        due("each by items that have become so", t.each(late, 2), 3);
        stands(t, 2, 2, 0, 2);
        due("result()", t.result(), 0);

        says("BAD;");
        badOfRuleAndRow("each", (b, rule, r) -> b.each(rule, r));
        says("NULL: it is NOTHING (no STEPS, not FAILED);");
        nullOfRow("each", b -> b.each(0, 3));

        t = says("FAILURES: those before have become so.");
        int byRow = make(t, LATE, 1);
        made(t, 1, 10, 11, 12);
        made(t, 0, 3, 1, 2);
        due("each, refused at the first", t.each(byRow, 0), INDEX);
        stands(t, 0, 3, 1, 2);
        due("steps()", t.steps(), 1);
        made(t, 0, 2, 3, 1);
        due("each, refused between", t.each(byRow, 0), INDEX);
        stands(t, 0, 12, 3, 1);
        due("steps()", t.steps(), 2);
        made(t, 0, 2, 1, -1);
        due("each, refused at the last", t.each(byRow, 0), INDEX);
        stands(t, 0, 12, 11, -1);
        due("steps()", t.steps(), 3);
        int eight = make(t, THEN, make(t, PLUS, 1), taking(t, 6));
        due("row(0, 10)", t.row(0, 10), 1);
        due("each, SPENT behind 8 items", t.each(eight, 0), SPENT);
        stands(t, 0, 1, 1, 1, 1, 1, 1, 1, 1, 0, 0);
    }

    private static void keepPromise() {
        section("Promise 11: keep");
        TollRules t = says("A ROW becomes a new one, of those of its items of which a RULE gives not 0, in order:"
                + " how many.");
        int same = make(t, PLUS, 0);
        made(t, 0, 3, 0, -5, 0, MIN, MAX, 0, 1, -1, 3);
        due("share(1, 0)", t.share(1, 0), 1);
        due("keep", t.keep(same, 0), 7);
        stands(t, 0, 3, -5, MIN, MAX, 1, -1, 3);
        stands(t, 1, 3, 0, -5, 0, MIN, MAX, 0, 1, -1, 3);
        due("share(2, 0)", t.share(2, 0), 1);
        due("keep of all", t.keep(same, 0), 7);
        due("put(0, 0, 9)", t.put(0, 0, 9), 1);
        due("item(2, 0) of the one before", t.item(2, 0), 3);
        int none = make(t, TIMES, 0);
        due("keep of none", t.keep(none, 0), 0);
        stands(t, 0);
        due("count(4): it is not NOTHING", t.count(4), 1);
        due("keep without items", t.keep(same, 0), 0);
        stands(t, 0);
        made(t, 0, 1, 2, 0);
        due("keep by its own items", t.keep(make(t, LATE, 0), 0), 2);
        stands(t, 0, 1, 0);
        due("result()", t.result(), 0);

        says("BAD;");
        badOfRuleAndRow("keep", (b, rule, r) -> b.keep(rule, r));
        says("NULL likewise;");
        nullOfRow("keep", b -> b.keep(0, 3));

        t = says("FAILURES: it stays what it was.");
        int late = make(t, LATE, 1);
        made(t, 1, 1, 0, 1);
        made(t, 0, 0, 1, 3);
        due("share(2, 0)", t.share(2, 0), 1);
        due("keep, refused at the last", t.keep(late, 0), INDEX);
        stands(t, 0, 0, 1, 3);
        due("put(2, 0, 3)", t.put(2, 0, 3), 1);
        due("keep, refused at the first", t.keep(late, 0), INDEX);
        stands(t, 0, 3, 1, 3);
        due("steps()", t.steps(), 1);
        due("row(0, 9)", t.row(0, 9), 1);
        due("keep, SPENT behind 8 items", t.keep(taking(t, 8), 0), SPENT);
        stands(t, 0, new int[9]);
    }

    private static void orderPromise() {
        section("Promise 12: order");
        TollRules t = says("The items of a ROW (the very one) come in order by what a RULE gives of each,");
        int same = make(t, PLUS, 0);
        int minus = make(t, TIMES, -1);
        made(t, 0, 5, 2, 9, 1, 8, 3, 7, 4, 6, 0);
        due("share(3, 0)", t.share(3, 0), 1);
        due("order", t.order(same, 0), 10);
        stands(t, 0, 0, 1, 2, 3, 4, 5, 6, 7, 8, 9);
        stands(t, 3, 0, 1, 2, 3, 4, 5, 6, 7, 8, 9);
        due("order by -x", t.order(minus, 3), 10);
        stands(t, 0, 9, 8, 7, 6, 5, 4, 3, 2, 1, 0);
        due("result()", t.result(), 0);

        t = says("asked once of each ahead, as they stand:");
        int tick = make(t, TICK, 0);
        made(t, 0, 9, 8, 7, 6, 5, 4, 3, 2, 1, 0);
        due("order by x + TICK, all like", t.order(tick, 0), 0);
        due("has(0)", t.has(0), 10);
        due("steps()", t.steps(), 10);
        made(t, 0, 2, 0, 1);
        due("order by its own items: 1, 2, 0", t.order(make(t, LATE, 0), 0), 3);
        stands(t, 0, 1, 2, 0);
        due("row(0, 1)", t.row(0, 1), 1);
        due("order of one item", t.order(tick, 0), 0);
        due("has(0)", t.has(0), 11);

        t = says("the least first,");
        same = make(t, PLUS, 0);
        made(t, 0, MAX, 0, MIN, 1, -1);
        due("order", t.order(same, 0), 4);
        stands(t, 0, MIN, -1, 0, 1, MAX);

        t = says("of like ones as they stood:");
        int rest = make(t, REST, 10);
        made(t, 0, 21, 11, 30, 1, 20, 31, 10, 41, 40, 51);
        due("order by x % 10", t.order(rest, 0), 9);
        stands(t, 0, 30, 20, 10, 40, 21, 11, 1, 31, 41, 51);
        due("order again", t.order(rest, 0), 0);
        stands(t, 0, 30, 20, 10, 40, 21, 11, 1, 31, 41, 51);

        t = says("how many stand elsewhere then.");
        same = make(t, PLUS, 0);
        made(t, 0, 1, 2, 3, 4);
        due("order of those in order", t.order(same, 0), 0);
        made(t, 0, 1, 3, 2, 4);
        due("order of two that change", t.order(same, 0), 2);
        made(t, 0, 7, 7, 7, 2);
        due("like ones that stand elsewhere too", t.order(same, 0), 4);
        due("order of like ones", t.order(make(t, TIMES, 0), 0), 0);
        due("row(0, 0)", t.row(0, 0), 1);
        due("order without items", t.order(same, 0), 0);

        says("BAD;");
        badOfRuleAndRow("order", (b, rule, r) -> b.order(rule, r));
        says("NULL likewise;");
        nullOfRow("order", b -> b.order(0, 3));

        t = says("FAILURES: they stay.");
        int late = make(t, LATE, 1);
        made(t, 1, 2, 1, 0);
        made(t, 0, 0, 1, 3);
        due("order, refused at the last", t.order(late, 0), INDEX);
        stands(t, 0, 0, 1, 3);
        made(t, 0, -1, 1, 0);
        due("order, refused at the first", t.order(late, 0), INDEX);
        stands(t, 0, -1, 1, 0);
        made(t, 0, 9, 8, 7, 6, 5, 4, 3, 2, 1);
        due("order, SPENT behind 8 items", t.order(taking(t, 8), 0), SPENT);
        stands(t, 0, 9, 8, 7, 6, 5, 4, 3, 2, 1);
    }

    private interface RuleAndRow {
        int on(TollRules t, int rule, int r);
    }

    private static void badOfRuleAndRow(String name, RuleAndRow call) {
        for (int rule : NO_RULES) {
            unchanged(name + "(" + rule + ", 0)", t -> call.on(t, rule, 0), BAD);
            unchanged(name + "(" + rule + ", 2), without items", t -> call.on(t, rule, 2), BAD);
            unchanged(name + "(" + rule + ", 3) of NOTHING", t -> call.on(t, rule, 3), BAD);
        }
        for (int r : NO_ROWS) {
            unchanged(name + "(3, " + r + ")", t -> call.on(t, 3, r), BAD);
            unchanged(name + "(20, " + r + ")", t -> call.on(t, 20, r), BAD);
        }
    }

    private static void nullOfRow(String name, Call ofRow3) {
        unchanged(name + " of ROW 3", ofRow3, NULL);
        TollRules t = new TollRules();
        t.rule(PLUS, 1, 0);
        due(name + " of ROW 3", ofRow3.on(t), NULL);
        due("steps()", t.steps(), 0);
        due("count(1)", t.count(1), 0);
        due("count(2)", t.count(2), 0);
        due("failed(0)", t.failed(0), 0);
        due("failed(1)", t.failed(1), -1);
    }

    // Promise 13

    private static void foldPromise() {
        section("Promise 13: fold");
        TollRules t = says("From x on, for each item i of a ROW in order, x becomes:");
        for (int how = 0; how <= 4; how++) {
            due("row(0, 0)", t.row(0, 0), 1);
            folds(t, how, MIN, MIN);
            made(t, 0, 1, 1, 1, 1, 1, 1, 1, 1, 1, -1);
            due("fold(" + how + ") of 10 items", t.fold(how, 0, 5), 1);
            stands(t, 0, 1, 1, 1, 1, 1, 1, 1, 1, 1, -1);
        }
        due("result(), the last being -1", t.result(), -5);

        t = says("how = 0 x + i,");
        made(t, 0, 3, -2, 4);
        folds(t, 0, 10, 15);
        made(t, 0, MAX, 1);
        folds(t, 0, 0, MIN);

        t = says("1 the greater,");
        made(t, 0, 3, -2, 4);
        folds(t, 1, 3, 4);
        folds(t, 1, 4, 4);
        folds(t, 1, 5, 5);
        made(t, 0, MIN, MIN);
        folds(t, 1, MAX, MAX);
        folds(t, 1, MIN, MIN);

        t = says("2 31 x + i,");
        made(t, 0, 3, -2);
        folds(t, 2, 1, (31 + 3) * 31 - 2);
        made(t, 0, MAX);
        folds(t, 2, MAX, MAX * 32);

        t = says("3 i - x,");
        made(t, 0, 3, -2, 4);
        folds(t, 3, 10, 4 - (-2 - (3 - 10)));
        made(t, 0, 0);
        folds(t, 3, MIN, MIN);

        t = says("4 x / i: 1;");
        made(t, 0, 3, -2);
        folds(t, 4, 100, -16);
        folds(t, 4, -100, 16);
        folds(t, 4, 2, 0);
        made(t, 0, -1);
        folds(t, 4, MIN, MIN);

        t = says("result() is the last.");
        made(t, 0, 6);
        folds(t, 0, 1, 7);
        due("fold of NOTHING", t.fold(0, 1, 1), NULL);
        due("fold of a how that is none", t.fold(5, 0, 1), BAD);
        due("put(0, 0, 0)", t.put(0, 0, 0), 1);
        due("fold by 0", t.fold(4, 0, 1), ZERO);
        due("result() stays", t.result(), 7);
        foldRefusals();
    }

    private static void foldRefusals() {
        says("BAD;");
        for (int how : new int[] {-1, 5, MIN, MAX}) {
            unchanged("fold(" + how + ", 0, 1)", b -> b.fold(how, 0, 1), BAD);
            unchanged("fold(" + how + ", 2, 1), without items", b -> b.fold(how, 2, 1), BAD);
            unchanged("fold(" + how + ", 3, 1) of NOTHING", b -> b.fold(how, 3, 1), BAD);
        }
        for (int r : NO_ROWS) {
            unchanged("fold(0, " + r + ", 1)", b -> b.fold(0, r, 1), BAD);
        }

        says("NULL likewise;");
        for (int how = 0; how <= 4; how++) {
            int chosen = how;
            nullOfRow("fold(" + how + ")", b -> b.fold(chosen, 3, 1));
        }

        TollRules t = says("ZERO (FAILED, at RULE -1).");
        int lack = make(t, LACK, 0);
        for (int zeroAt = 0; zeroAt < 3; zeroAt++) {
            made(t, 0, 2, 2, 2);
            due("put(0, " + zeroAt + ", 0)", t.put(0, zeroAt, 0), 1);
            refuses(t, lack, 0, NULL, lack);
            due("fold by 0", t.fold(4, 0, 100), ZERO);
            due("failed(0)", t.failed(0), 1);
            due("failed(1)", t.failed(1), -1);
            due("count(2)", t.count(2), 2 * zeroAt + 2);
            due("fold by + of the same", t.fold(0, 0, 0), 1);
        }
        changes("fold(4, 0, 0)", b -> b.fold(4, 0, 0), ZERO, "failed(0)", "failed(1)", "count(2)");
    }

    private static void folds(TollRules t, int how, int x, int want) {
        due("fold(" + how + ", 0, " + x + ")", t.fold(how, 0, x), 1);
        due("result() of fold(" + how + ", 0, " + x + ")", t.result(), want);
    }

    // Promise 14

    private static void untilPromise() {
        section("Promise 14: until");
        TollRules t = says("x becomes what a RULE gives of it, again and again,");
        int times = make(t, TIMES, 2);
        int below = make(t, BY, 32);
        int same = make(t, PLUS, 0);
        due("until", t.until(times, same, 1, 5), 5);
        due("result()", t.result(), 32);

        says("till another RULE gives 0 of it (asked behind each),");
        int plus = make(t, PLUS, 1);
        int rest = make(t, REST, 5);
        due("until 5", t.until(plus, rest, 2, 30), 3);
        due("steps()", t.steps(), 6);
        due("until 10, not asked ahead", t.until(plus, rest, 5, 30), 5);
        due("result()", t.result(), 10);
        due("until 5 at once", t.until(plus, rest, 4, 30), 1);
        due("until, the test below 0", t.until(plus, rest, -3, 30), 3);
        due("until, the test giving 0 at once", t.until(times, below, 15, 30), 1);
        due("until, asked behind the last too", t.until(plus, rest, 0, 2), 2);
        due("steps()", t.steps(), 4);
        due("until 0 by one RULE for both", t.until(plus, plus, -3, 30), 2);
        due("result()", t.result(), -1);

        says("most (1 to 30) times at most:");
        due("most 1", t.until(times, same, 1, 1), 1);
        due("result()", t.result(), 2);
        due("most 30", t.until(times, same, 1, 30), 30);
        due("result()", t.result(), 1 << 30);
        due("steps()", t.steps(), 60);

        says("how often;");
        due("till 0 ahead of most", t.until(plus, rest, 3, 30), 2);
        due("till 0 at the last time", t.until(plus, rest, 0, 5), 5);
        due("till 0 behind most", t.until(plus, rest, 0, 4), 4);

        says("result() is x then.");
        due("result()", t.result(), 4);
        due("till 0", t.until(plus, rest, 1, 30), 4);
        due("result()", t.result(), 5);
        untilRefusals();
    }

    private static void untilRefusals() {
        says("BAD;");
        for (int most : new int[] {0, -1, 31, MIN, MAX}) {
            unchanged("until(3, 0, 1, " + most + ")", b -> b.until(3, 0, 1, most), BAD);
        }
        for (int rule : NO_RULES) {
            unchanged("until(" + rule + ", 0, 1, 1)", b -> b.until(rule, 0, 1, 1), BAD);
            unchanged("until(3, " + rule + ", 1, 1)", b -> b.until(3, rule, 1, 1), BAD);
        }

        TollRules t = says("FAILURES.");
        int plus = make(t, PLUS, 1);
        int late = make(t, LATE, 0);
        made(t, 0, 1, 2, 9);
        gives(t, plus, 6, 7);
        due("the RULE is refused at the fourth time", t.until(late, plus, 0, 30), INDEX);
        due("steps()", t.steps(), 7);
        due("failed(0)", t.failed(0), 2);
        due("failed(1)", t.failed(1), late);
        due("the test is refused at the third time", t.until(plus, late, -1, 30), INDEX);
        due("steps()", t.steps(), 8);
        due("count(2)", t.count(2), 2);
        int lack = make(t, LACK, 0);
        due("the test is refused behind the last", t.until(plus, lack, 0, 1), NULL);
        int three = taking(t, 3);
        due("16 times 4 STEPS", t.until(plus, three, 1, 16), 16);
        due("result()", t.result(), 17);
        due("SPENT at the 17th", t.until(plus, three, 1, 17), SPENT);
        due("failed(1)", t.failed(1), plus);
        due("result() stays", t.result(), 17);
        due("count(2)", t.count(2), 4);
    }

    // Promises 15 and 16

    private static void resultPromise() {
        section("Promise 15: result");
        TollRules t = says("What the latest apply(), fold(), until() that was done gave;");
        int plus = make(t, PLUS, 4);
        int lack = make(t, LACK, 0);
        due("row(0, 2)", t.row(0, 2), 1);
        gives(t, plus, 1, 5);
        due("each", t.each(plus, 0), 2);
        due("order", t.order(plus, 0), 0);
        due("keep", t.keep(plus, 0), 2);
        make(t, NOW, plus, 50);
        due("result() behind these", t.result(), 5);
        due("fold", t.fold(0, 0, 1), 1);
        due("result()", t.result(), 9);
        due("until", t.until(plus, plus, 1, 3), 3);
        due("result()", t.result(), 13);
        due("apply, refused", t.apply(lack, 0), NULL);
        due("until, refused", t.until(lack, plus, 0, 1), NULL);
        due("until, its test refused", t.until(plus, lack, 0, 1), NULL);
        due("fold of NOTHING", t.fold(0, 1, 0), NULL);
        due("row(0, 1)", t.row(0, 1), 1);
        due("fold, refused", t.fold(4, 0, 0), ZERO);
        due("NOW, refused", t.rule(NOW, lack, 0), NULL);
        due("apply, BAD", t.apply(-1, 0), BAD);
        due("result() behind these", t.result(), 13);
        gives(t, plus, -4, 0);

        t = says("0 before.");
        due("result()", t.result(), 0);
        due("row(0, 1)", t.row(0, 1), 1);
        t.each(make(t, PLUS, 3), 0);
        t.apply(make(t, LACK, 0), 3);
        due("result()", t.result(), 0);
    }

    private static void stepsPromise() {
        section("Promise 16: steps");
        TollRules t = says("STEPS of the latest call that applied RULES"
                + " (apply(), each(), keep(), order(), until(), rule() of NOW), also one that FAILED;");
        int plus = make(t, PLUS, 4);
        int lack = make(t, LACK, 0);
        int three = make(t, TWICE, plus);
        int two = make(t, THEN, lack, plus);
        due("row(0, 4)", t.row(0, 4), 1);
        stepsBehind("apply", t.apply(three, 1), 1, t, 3);
        stepsBehind("each", t.each(plus, 0), 4, t, 4);
        stepsBehind("keep", t.keep(three, 0), 4, t, 12);
        stepsBehind("order", t.order(plus, 0), 0, t, 4);
        stepsBehind("until", t.until(three, plus, 0, 5), 5, t, 20);
        stepsBehind("NOW", t.rule(NOW, three, 0), 4, t, 3);
        stepsBehind("apply, refused", t.apply(two, 1), NULL, t, 2);
        stepsBehind("each, refused", t.each(lack, 0), NULL, t, 1);
        stepsBehind("keep, refused", t.keep(two, 0), NULL, t, 2);
        stepsBehind("order, refused", t.order(lack, 0), NULL, t, 1);
        stepsBehind("until, refused", t.until(three, lack, 0, 1), NULL, t, 4);
        stepsBehind("NOW, refused", t.rule(NOW, lack, 0), NULL, t, 1);
        stepsBehind("fold", t.fold(0, 0, 0), 1, t, 1);
        stepsBehind("another rule()", t.rule(PLUS, 0, 0), 5, t, 1);
        stepsBehind("apply, BAD", t.apply(-1, 0), BAD, t, 1);
        stepsBehind("each of NOTHING", t.each(plus, 3), NULL, t, 1);
        stepsBehind("row", t.row(0, 0), 1, t, 1);
        stepsBehind("each without items", t.each(plus, 0), 0, t, 0);
        stepsBehind("apply", t.apply(plus, 0), 1, t, 1);
        stepsBehind("keep without items", t.keep(plus, 0), 0, t, 0);
        stepsBehind("apply", t.apply(plus, 0), 1, t, 1);
        stepsBehind("order without items", t.order(plus, 0), 0, t, 0);

        t = says("0 before.");
        due("steps()", t.steps(), 0);
        make(t, THEN, make(t, PLUS, 0), 0);
        due("steps() behind rule()", t.steps(), 0);
    }

    private static void stepsBehind(String call, int got, int want, TollRules t, int steps) {
        due(call, got, want);
        due("steps() behind " + call, t.steps(), steps);
    }

    // Promises 17 and 18

    private static void failedPromise() {
        section("Promise 17: failed");
        TollRules t = says("Of the latest call that FAILED:");
        int zero = make(t, BY, 0);
        int lack = make(t, LACK, 0);
        int plus = make(t, PLUS, 0);
        made(t, 0, 0);
        failsBehind("apply", t.apply(lack, 0), NULL, t, 3, lack);
        failsBehind("apply that is done", t.apply(plus, 0), 1, t, 3, lack);
        failsBehind("ELSE that is done", t.apply(make(t, ELSE, zero, plus), 0), 1, t, 3, lack);
        failsBehind("each", t.each(zero, 0), ZERO, t, 1, zero);
        failsBehind("keep", t.keep(lack, 0), NULL, t, 3, lack);
        failsBehind("order", t.order(zero, 0), ZERO, t, 1, zero);
        failsBehind("NOW", t.rule(NOW, lack, 0), NULL, t, 3, lack);
        failsBehind("until", t.until(zero, plus, 0, 1), ZERO, t, 1, zero);
        failsBehind("until, its test", t.until(plus, lack, 0, 1), NULL, t, 3, lack);
        failsBehind("fold", t.fold(4, 0, 0), ZERO, t, 1, -1);
        failsBehind("put, INDEX", t.put(0, 1, 0), INDEX, t, 1, -1);
        failsBehind("put, NULL", t.put(1, 0, 0), NULL, t, 1, -1);
        failsBehind("each of NOTHING", t.each(lack, 1), NULL, t, 1, -1);
        failsBehind("fold of NOTHING", t.fold(0, 1, 0), NULL, t, 1, -1);
        failsBehind("apply, BAD", t.apply(40, 0), BAD, t, 1, -1);

        t = says("0 its kind (1 ZERO to 5 SPENT;");
        due("row(0, 0)", t.row(0, 0), 1);
        int[] refused = {make(t, REST, 0), make(t, LATE, 0), make(t, LACK, 0), make(t, ROOM, 0), taking(t, 65)};
        for (int kind = 1; kind <= 5; kind++) {
            due("apply, FAILURE " + kind, t.apply(refused[kind - 1], -1), -10 - kind);
            due("failed(0)", t.failed(0), kind);
        }
        t = says("0 before),");
        due("failed(0)", t.failed(0), 0);
        t = says("1 the RULE whose own act was REFUSED,");
        plus = make(t, PLUS, 1);
        lack = make(t, LACK, 0);
        zero = make(t, BY, 0);
        int then = make(t, THEN, plus, lack);
        refuses(t, make(t, TWICE, make(t, IF, plus, then)), 1, NULL, lack);
        refuses(t, make(t, LESS, plus, lack), 1, NULL, lack);
        refuses(t, make(t, ELSE, lack, zero), 1, ZERO, zero);
        refuses(t, make(t, ELSE, then, then), 1, NULL, lack);

        t = says("or that was not begun");
        lack = make(t, LACK, 0);
        int long63 = taking(t, 63);
        refuses(t, make(t, THEN, long63, lack), 0, SPENT, lack);
        refuses(t, make(t, TWICE, long63), 0, SPENT, long63);

        t = says("(-1 before).");
        due("failed(1)", t.failed(1), -1);
        says("BAD.");
        for (int what : new int[] {-1, 2, MIN, MAX}) {
            unchanged("failed(" + what + ")", b -> b.failed(what), BAD);
        }
    }

    private static void failsBehind(String call, int got, int want, TollRules t, int kind, int rule) {
        due(call, got, want);
        due("failed(0) behind " + call, t.failed(0), kind);
        due("failed(1) behind " + call, t.failed(1), rule);
    }

    private static void countPromise() {
        section("Promise 18: count");
        TollRules t = says("0 RULES,");
        for (int k = 0; k <= 40; k++) {
            due("count(0)", t.count(0), k);
            due("the next RULE", t.rule(LACK, 0, 0), k < 40 ? k : FULL);
        }
        due("count(0) behind FULL", t.count(0), 40);

        t = says("1 STEPS in all,");
        due("count(1)", t.count(1), 0);
        int three = taking(t, 3);
        int lack = make(t, LACK, 0);
        due("row(0, 2)", t.row(0, 2), 1);
        counted("apply", t.apply(three, 0), 1, t, 1, 3);
        counted("each", t.each(three, 0), 2, t, 1, 9);
        counted("keep", t.keep(lack, 0), NULL, t, 1, 10);
        counted("order", t.order(three, 0), 0, t, 1, 16);
        counted("until", t.until(three, lack, 0, 1), NULL, t, 1, 20);
        counted("NOW", t.rule(NOW, three, 0), t.count(0) - 1, t, 1, 23);
        counted("SPENT", t.apply(taking(t, 65), 0), SPENT, t, 1, 87);
        counted("fold", t.fold(0, 0, 0), 1, t, 1, 87);
        counted("apply, BAD", t.apply(40, 0), BAD, t, 1, 87);
        counted("each of NOTHING", t.each(three, 1), NULL, t, 1, 87);

        t = says("2 calls that FAILED,");
        due("count(2)", t.count(2), 0);
        lack = make(t, LACK, 0);
        due("row(0, 2)", t.row(0, 2), 1);
        counted("apply", t.apply(lack, 0), NULL, t, 2, 1);
        counted("each", t.each(lack, 0), NULL, t, 2, 2);
        counted("keep", t.keep(lack, 0), NULL, t, 2, 3);
        counted("order", t.order(lack, 0), NULL, t, 2, 4);
        counted("fold", t.fold(4, 0, 0), ZERO, t, 2, 5);
        counted("until", t.until(lack, lack, 0, 1), NULL, t, 2, 6);
        counted("NOW", t.rule(NOW, lack, 0), NULL, t, 2, 7);
        counted("put", t.put(0, 2, 0), INDEX, t, 2, 7);
        counted("put", t.put(1, 0, 0), NULL, t, 2, 7);
        counted("order of NOTHING", t.order(lack, 1), NULL, t, 2, 7);
        counted("fold of NOTHING", t.fold(4, 1, 0), NULL, t, 2, 7);
        counted("apply, BAD", t.apply(40, 0), BAD, t, 2, 7);
        int other = make(t, ELSE, lack, make(t, PLUS, 0));
        counted("ELSE that is done", t.apply(other, 0), 1, t, 2, 7);
        countOfOtherWays();
        countOfNothing();
        says("BAD.");
        for (int what : new int[] {-1, 5, MIN, MAX}) {
            unchanged("count(" + what + ")", b -> b.count(what), BAD);
        }
    }

    private static void countOfOtherWays() {
        TollRules t = says("3 how often ELSE went the other way,");
        due("count(3)", t.count(3), 0);
        int lack = make(t, LACK, 0);
        int plus = make(t, PLUS, 1);
        int other = make(t, ELSE, lack, plus);
        counted("ELSE", t.apply(other, 0), 1, t, 3, 1);
        counted("ELSE without need", t.apply(make(t, ELSE, plus, lack), 0), 1, t, 3, 1);
        due("row(0, 10)", t.row(0, 10), 1);
        counted("each by ELSE", t.each(other, 0), 10, t, 3, 11);
        int both = make(t, ELSE, lack, lack);
        counted("ELSE whose other way is refused", t.apply(both, 0), NULL, t, 3, 12);
        counted("ELSE round ELSE", t.apply(make(t, ELSE, both, plus), 0), 1, t, 3, 14);
        counted("NOW of ELSE", t.rule(NOW, other, 0), t.count(0) - 1, t, 3, 15);
        int spent = make(t, THEN, taking(t, 62), plus);
        counted("ELSE of SPENT", t.apply(make(t, ELSE, spent, plus), 0), SPENT, t, 3, 15);
        int refused = make(t, THEN, taking(t, 61), lack);
        counted("ELSE whose other way is not begun", t.apply(make(t, ELSE, refused, plus), 0), SPENT, t, 3, 16);
    }

    private static void countOfNothing() {
        TollRules t = says("4 how many ROWS are NOTHING.");
        due("count(4)", t.count(4), 4);
        counted("row(0, 0)", t.row(0, 0), 1, t, 4, 3);
        counted("row(3, 10)", t.row(3, 10), 1, t, 4, 2);
        counted("share(1, 0)", t.share(1, 0), 1, t, 4, 1);
        counted("share(2, 0)", t.share(2, 0), 1, t, 4, 0);
        counted("row(0, -1)", t.row(0, -1), 1, t, 4, 1);
        counted("row(0, -1) again", t.row(0, -1), 1, t, 4, 1);
        counted("share(3, 0)", t.share(3, 0), 0, t, 4, 2);
        counted("row(1, -1)", t.row(1, -1), 1, t, 4, 3);
        counted("keep of none", t.keep(make(t, PLUS, 0), 2), 0, t, 4, 3);
        counted("row(2, -1)", t.row(2, -1), 1, t, 4, 4);
    }

    private static void counted(String call, int got, int want, TollRules t, int what, int count) {
        due(call, got, want);
        due("count(" + what + ") behind " + call, t.count(what), count);
    }
}
