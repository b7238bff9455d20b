import java.io.IOException;

/** "What it is" and "Terms" of the document, sentence by sentence, with the boundary cases that each names. */
public final class TollRulesTermsBySentence extends Sentences {
    public static void main(String[] args) throws IOException {
        runAll("What it is|Terms",
                TollRulesTermsBySentence::useOfAnObject, TollRulesTermsBySentence::termsOfBoardAndRows,
                TollRulesTermsBySentence::termsOfRules, TollRulesTermsBySentence::kindsOfNumbers,
                TollRulesTermsBySentence::kindsOfPlaces, TollRulesTermsBySentence::kindItem,
                TollRulesTermsBySentence::kindLate, TollRulesTermsBySentence::kindsThatAsk,
                TollRulesTermsBySentence::kindElse, TollRulesTermsBySentence::kindsThatCount,
                TollRulesTermsBySentence::kindsNowRoomLack, TollRulesTermsBySentence::termsOfSteps,
                TollRulesTermsBySentence::termsOfSpent, TollRulesTermsBySentence::termsOfWhatStays,
                TollRulesTermsBySentence::termsOfAnswers, TollRulesTermsBySentence::termsOfBadAndFull,
                TollRulesTermsBySentence::termsOfFailures);
    }

    // What it is

    private static void useOfAnObject() {
        section("What it is");
        says("Rules of a toll: small rules that take a number and give another one, made of numbers, of a board"
                + " as it stands when they are made or when they are applied, of rows, of other rules;"
                + " applied alone, to rows, until; what the machine refuses on the way ends the act,"
                + " or is met by a rule that has another way.");
        allInOne();
        TollRules t = says("An object is used for at most 512 calls after it has been made;");
        due("rule(OWN, 1, 0)", t.rule(OWN, 1, 0), 0);
        for (int call = 2; call <= 511; call++) {
            due("apply(0, 0) as call " + call, t.apply(0, 0), 1);
        }
        due("result() as call 512", t.result(), 510);
        dearestCalls();

        t = says("what later calls answer is free.");
        for (int call = 1; call <= 2000; call++) {
            t.rule(call % 19, call % 9, call % 7);
            t.row(call % 5, call % 12 - 1);
            t.order(call % 41, call % 5);
            t.until(call % 41, call % 13, call, call % 32);
        }
        due("that they all answer", 1, 1);
    }

    private static void allInOne() {
        TollRules t = new TollRules();
        int tick = make(t, TICK, 0);
        int late = make(t, LATE, 0);
        int other = make(t, ELSE, make(t, THEN, tick, late), make(t, KEPT, 0));
        made(t, 0, 8, 9);
        gives(t, other, 0, 9);
        gives(t, other, 0, 0);
        due("each(" + late + ", 0)", t.each(late, 0), INDEX);
        due("each(" + other + ", 0)", t.each(other, 0), 2);
        due("until", t.until(other, make(t, PLUS, 0), -5, 3), 3);
        due("result()", t.result(), 8);
    }

    private static void dearestCalls() {
        TollRules t = new TollRules();
        t.rule(TICK, 0, 0);
        for (int k = 1; k < 40; k++) {
            t.rule(TWICE, k - 1, 0);
        }
        t.row(0, 10);
        for (int call = 42; call <= 510; call++) {
            due("a SPENT one as call " + call, call % 2 == 0 ? t.apply(39, 0) : t.each(39, 0), SPENT);
        }
        due("count(1) as call 511", t.count(1), 469 * 64);
        due("count(2) as call 512", t.count(2), 469);
    }

    // Terms

    private static void termsOfBoardAndRows() {
        section("Terms");
        TollRules t = says("THE BOARD has PLACES 0 .. 7, ints (0 at first).");
        for (int p = 0; p <= 7; p++) {
            due("has(" + p + ")", t.has(p), 0);
            due("place(" + p + ", MIN)", t.place(p, MIN), 0);
            due("place(" + p + ", MAX)", t.place(p, MAX), MIN);
            due("has(" + p + ")", t.has(p), MAX);
        }
        due("has(-1)", t.has(-1), NONE);
        due("has(8)", t.has(8), NONE);

        t = says("ROWS 0 .. 3 are rows of 0 to 10 ints, or NOTHING (at first);");
        for (int r = 0; r <= 3; r++) {
            isNothing(t, r);
            due("row(" + r + ", 0)", t.row(r, 0), 1);
            stands(t, r);
            due("row(" + r + ", 10)", t.row(r, 10), 1);
            due("put(" + r + ", 0, MIN)", t.put(r, 0, MIN), 1);
            due("put(" + r + ", 9, MAX)", t.put(r, 9, MAX), 1);
            stands(t, r, MIN, 0, 0, 0, 0, 0, 0, 0, 0, MAX);
        }
        due("row(-1, 1)", t.row(-1, 1), BAD);
        due("row(4, 1)", t.row(4, 1), BAD);

        t = says("several may be the very same one.");
        made(t, 0, 1, 2);
        for (int r = 1; r <= 3; r++) {
            due("share(" + r + ", " + (r - 1) + ")", t.share(r, r - 1), 1);
        }
        due("put(2, 1, 8)", t.put(2, 1, 8), 1);
        for (int r = 0; r <= 3; r++) {
            stands(t, r, 1, 8);
        }
    }

    private static void termsOfRules() {
        section("Terms");
        TollRules t = says("RULES 0, 1, .. (40 at most)");
        for (int k = 0; k <= 39; k++) {
            due("the next RULE", t.rule(PLUS, k, 0), k);
        }
        due("the 41st RULE", t.rule(PLUS, 40, 0), FULL);
        due("count(0)", t.count(0), 40);
        gives(t, 0, 100, 100);
        gives(t, 39, 100, 139);
        due("apply(40, 0)", t.apply(40, 0), BAD);

        t = says("take an int x and give an int (all wraps), each by its KIND, a and b being told as it is made:");
        givesAlone(PLUS, 1, MAX, MIN);
        givesAlone(PLUS, -1, MIN, MAX);
        givesAlone(PLUS, MIN, MIN, 0);
        givesAlone(TIMES, 2, MIN, 0);
        givesAlone(TIMES, -1, MIN, MIN);
        givesAlone(TIMES, MAX, MAX, 1);
        givesAlone(BY, -1, MIN, MIN);
        givesAlone(REST, -1, MIN, 0);
        t.place(0, MAX);
        gives(t, make(t, KEPT, 0), 1, MIN);
        gives(t, make(t, SEEN, 0), 1, MIN);
        int tick = make(t, TICK, 0);
        gives(t, tick, 0, MIN);
        due("has(0)", t.has(0), MIN);
        gives(t, tick, -2, MAX);
        int own = make(t, OWN, MAX);
        gives(t, own, 1, MIN);
        gives(t, own, 0, -2);
        gives(t, make(t, TWICE, make(t, PLUS, MAX)), 3, 1);
    }

    private static void kindsOfNumbers() {
        section("Terms");
        says("0 PLUS: x + a.");
        givesAlone(PLUS, 0, -6, -6);
        givesAlone(PLUS, 7, -6, 1);
        givesAlone(PLUS, MAX, MIN, -1);

        says("1 TIMES: x a.");
        givesAlone(TIMES, 0, MIN, 0);
        givesAlone(TIMES, -3, 5, -15);
        givesAlone(TIMES, 1, MIN, MIN);

        says("2 BY: x / a, cut;");
        givesAlone(BY, 2, 7, 3);
        givesAlone(BY, 2, -7, -3);
        givesAlone(BY, -2, 7, -3);
        givesAlone(BY, -2, -7, 3);
        givesAlone(BY, 8, -7, 0);
        givesAlone(BY, MIN, MAX, 0);
        givesAlone(BY, MIN, MIN, 1);

        says("ZERO if a is 0.");
        refusesAlone(BY, 0, 5, ZERO);
        refusesAlone(BY, 0, 0, ZERO);
        givesAlone(BY, 1, 5, 5);
        givesAlone(BY, -1, 5, -5);

        says("3 REST: x % a (with the sign of x);");
        givesAlone(REST, 4, 7, 3);
        givesAlone(REST, 4, -7, -3);
        givesAlone(REST, -4, 7, 3);
        givesAlone(REST, -4, -7, -3);
        givesAlone(REST, 7, -7, 0);
        givesAlone(REST, MIN, MAX, MAX);
        givesAlone(REST, MIN, MIN, 0);

        says("ZERO likewise.");
        refusesAlone(REST, 0, 5, ZERO);
        refusesAlone(REST, 0, 0, ZERO);
        givesAlone(REST, 1, 5, 0);
        givesAlone(REST, -1, 5, 0);
    }

    private static void kindsOfPlaces() {
        section("Terms");
        TollRules t = says("4 KEPT: x plus what PLACE a had when the RULE was made.");
        for (int p = 0; p <= 7; p++) {
            t.place(p, 10 + p);
            int kept = make(t, KEPT, p);
            gives(t, kept, 1, 11 + p);
            t.place(p, -1);
            gives(t, kept, 1, 11 + p);
        }
        int kept = make(t, KEPT, 7);
        gives(t, make(t, THEN, make(t, TICK, 7), kept), 5, 4);

        t = says("5 SEEN: x plus what PLACE a has as it is applied.");
        for (int p = 0; p <= 7; p++) {
            t.place(p, -1);
            int seen = make(t, SEEN, p);
            gives(t, seen, 1, 0);
            t.place(p, 10 + p);
            gives(t, seen, 1, 11 + p);
        }
        gives(t, make(t, THEN, make(t, TICK, 7), 7), 0, 18 + 18);
    }

    private static void kindItem() {
        section("Terms");
        TollRules t = says("6 ITEM: item x of that which ROW a was when the RULE was made"
                + " (with its items as they are as it is applied):");
        for (int r = 0; r <= 3; r++) {
            made(t, r, 10 + r, 20 + r);
            int item = make(t, ITEM, r);
            gives(t, item, 1, 20 + r);
            due("put(" + r + ", 1, ..)", t.put(r, 1, 30 + r), 1);
            gives(t, item, 1, 30 + r);
            due("each(PLUS 1, " + r + ")", t.each(make(t, PLUS, 1), r), 2);
            gives(t, item, 1, 31 + r);
            due("row(" + r + ", 0)", t.row(r, 0), 1);
            gives(t, item, 0, 11 + r);
            due("row(" + r + ", -1)", t.row(r, -1), 1);
            gives(t, item, 1, 31 + r);
        }

        t = says("NULL if that was NOTHING,");
        int item = make(t, ITEM, 2);
        refuses(t, item, 0, NULL, item);
        refuses(t, item, -1, NULL, item);
        made(t, 2, 5);
        refuses(t, item, 0, NULL, item);

        t = says("INDEX if it has no such item.");
        made(t, 1, 4, 5, 6, 7);
        item = make(t, ITEM, 1);
        due("row(1, 10)", t.row(1, 10), 1);
        gives(t, item, 0, 4);
        gives(t, item, 3, 7);
        for (int x : NO_ITEMS_OF_4) {
            refuses(t, item, x, INDEX, item);
        }
        int itemOfTen = make(t, ITEM, 1);
        due("row(1, 0)", t.row(1, 0), 1);
        gives(t, itemOfTen, 9, 0);
        refuses(t, itemOfTen, 10, INDEX, itemOfTen);
        int itemOfNone = make(t, ITEM, 1);
        refuses(t, itemOfNone, 0, INDEX, itemOfNone);
    }

    private static void kindLate() {
        section("Terms");
        TollRules t = says("7 LATE: likewise of that which ROW a is as it is applied.");
        for (int r = 0; r <= 3; r++) {
            int late = make(t, LATE, r);
            refuses(t, late, 0, NULL, late);
            refuses(t, late, -1, NULL, late);
            made(t, r, 10 + r, 20 + r, 30 + r, 40 + r);
            gives(t, late, 0, 10 + r);
            gives(t, late, 3, 40 + r);
            due("put(" + r + ", 3, 5)", t.put(r, 3, 5), 1);
            gives(t, late, 3, 5);
            for (int x : NO_ITEMS_OF_4) {
                refuses(t, late, x, INDEX, late);
            }
            due("row(" + r + ", 0)", t.row(r, 0), 1);
            refuses(t, late, 0, INDEX, late);
            due("row(" + r + ", -1)", t.row(r, -1), 1);
            refuses(t, late, 0, NULL, late);
        }
    }

    private static void kindsThatAsk() {
        section("Terms");
        TollRules t = says("8 THEN: RULE b of what RULE a gives of x.");
        int plus = make(t, PLUS, 3);
        int times = make(t, TIMES, 2);
        gives(t, make(t, THEN, plus, times), 10, 26);
        gives(t, make(t, THEN, times, plus), 10, 23);
        gives(t, make(t, THEN, plus, plus), 10, 16);

        t = says("9 TWICE: RULE a of what RULE a gives of x.");
        times = make(t, TIMES, 3);
        gives(t, make(t, TWICE, times), 5, 45);
        gives(t, make(t, TWICE, make(t, OWN, 1)), 0, 3);

        t = says("10 IF: RULE b of x, if RULE a gives not 0 of x; else x.");
        plus = make(t, PLUS, 3);
        int lack = make(t, LACK, 0);
        int ifTimes = make(t, IF, plus, make(t, TIMES, 10));
        gives(t, ifTimes, -3, -3);
        gives(t, ifTimes, -4, -40);
        gives(t, ifTimes, -2, -20);
        gives(t, ifTimes, MIN, 0);
        int ifLack = make(t, IF, plus, lack);
        gives(t, ifLack, -3, -3);
        refuses(t, ifLack, -2, NULL, lack);
        refuses(t, make(t, IF, lack, plus), -3, NULL, lack);

        t = says("16 LESS: of what RULE a gives of x, then RULE b, the lesser.");
        plus = make(t, PLUS, 3);
        int less = make(t, LESS, plus, make(t, TIMES, 2));
        gives(t, less, 2, 4);
        gives(t, less, 3, 6);
        gives(t, less, 4, 7);
        int least = make(t, TIMES, MIN);
        gives(t, make(t, LESS, least, plus), 1, MIN);
        gives(t, make(t, LESS, plus, least), 1, MIN);
        int twoTicks = make(t, TWICE, make(t, TICK, 0));
        int seen = make(t, SEEN, 0);
        gives(t, make(t, LESS, twoTicks, seen), 0, 2);
        gives(t, make(t, LESS, seen, twoTicks), 0, 2);
    }

    private static void kindElse() {
        section("Terms");
        TollRules t = says("11 ELSE: RULE a of x;");
        int plus = make(t, PLUS, 3);
        gives(t, make(t, ELSE, plus, make(t, TICK, 0)), 1, 4);
        due("steps()", t.steps(), 2);
        due("has(0)", t.has(0), 0);

        t = says("if that is REFUSED by ZERO, INDEX, NULL, SIZE (whatever lies between): RULE b of x.");
        plus = make(t, PLUS, 100);
        due("row(1, 0)", t.row(1, 0), 1);
        int[] refused = {make(t, BY, 0), make(t, REST, 0), make(t, LATE, 1), make(t, ITEM, 0), make(t, ROOM, 0),
            make(t, LACK, 0)};
        for (int a : refused) {
            gives(t, make(t, ELSE, a, plus), -7, 93);
            int between = make(t, THEN, make(t, PLUS, -5), a);
            gives(t, make(t, ELSE, make(t, IF, plus, between), plus), -7, 93);
        }
        due("failed(0)", t.failed(0), 0);
        due("count(2)", t.count(2), 0);
        elseInElse();
        elseOfSpent();
    }

    private static void elseInElse() {
        TollRules t = new TollRules();
        int lack = make(t, LACK, 0);
        int zero = make(t, BY, 0);
        int plus = make(t, PLUS, 100);
        int both = make(t, ELSE, lack, zero);
        refuses(t, both, 4, ZERO, zero);
        gives(t, make(t, ELSE, both, plus), 4, 104);
        int then = make(t, THEN, make(t, ELSE, lack, plus), lack);
        refuses(t, then, 4, NULL, lack);
        gives(t, make(t, ELSE, then, plus), 4, 104);
        gives(t, make(t, THEN, make(t, ELSE, lack, plus), plus), 4, 204);
    }

    private static void elseOfSpent() {
        TollRules t = new TollRules();
        int plus = make(t, PLUS, 100);
        int lack = make(t, LACK, 0);
        int spent = make(t, THEN, taking(t, 62), plus);
        refuses(t, make(t, ELSE, spent, plus), 0, SPENT, plus);
        due("SPENT is not met by another way: count(3)", t.count(3), 0);
        int refused = make(t, THEN, taking(t, 61), lack);
        refuses(t, make(t, ELSE, refused, plus), 0, SPENT, plus);
        due("b as the 65th RULE: steps()", t.steps(), 64);
        t = new TollRules();
        plus = make(t, PLUS, 100);
        refused = make(t, THEN, taking(t, 60), make(t, LACK, 0));
        gives(t, make(t, ELSE, refused, plus), 0, 100);
        due("b as the 64th RULE: steps()", t.steps(), 64);
    }

    private static void kindsThatCount() {
        section("Terms");
        TollRules t = says("12 TICK: PLACE a becomes one more; x plus what it has then.");
        for (int p = 0; p <= 7; p++) {
            t.place(p, p - 1);
            int tick = make(t, TICK, p);
            gives(t, tick, 100, 100 + p);
            due("has(" + p + ")", t.has(p), p);
            gives(t, tick, -100, p - 99);
            due("has(" + p + ")", t.has(p), p + 1);
        }

        t = says("13 OWN: it has a count of its own, 0 at first, that becomes one more;"
                + " x plus a times the count then.");
        int five = make(t, OWN, 5);
        int alsoFive = make(t, OWN, 5);
        int nothing = make(t, OWN, 0);
        int minus = make(t, OWN, -2);
        gives(t, five, 0, 5);
        gives(t, five, 1, 11);
        gives(t, alsoFive, 0, 5);
        gives(t, nothing, 3, 3);
        gives(t, minus, 0, -2);
        gives(t, minus, 0, -4);
        gives(t, five, 0, 15);
        gives(t, nothing, 3, 3);
    }

    private static void kindsNowRoomLack() {
        section("Terms");
        TollRules t = says("14 NOW: what RULE a gave of b when the RULE was made, whatever x is.");
        t.place(0, 4);
        int now = make(t, NOW, make(t, SEEN, 0), MAX);
        t.place(0, 9);
        for (int x : new int[] {0, 1, -1, MIN, MAX}) {
            gives(t, now, x, MIN + 3);
        }
        int nowTick = make(t, NOW, make(t, TICK, 0), 0);
        gives(t, nowTick, 0, 10);
        gives(t, nowTick, 0, 10);
        due("has(0)", t.has(0), 10);

        says("15 ROOM: a row of x % 50 places is made: how many it has;");
        givesAlone(ROOM, 0, 0, 0);
        givesAlone(ROOM, 0, 1, 1);
        givesAlone(ROOM, 0, 49, 49);
        givesAlone(ROOM, 7, 50, 0);
        givesAlone(ROOM, 7, 51, 1);
        givesAlone(ROOM, MIN, MAX, 47);
        givesAlone(ROOM, 0, -50, 0);
        givesAlone(ROOM, 0, -100, 0);

        says("SIZE if that is below 0.");
        for (int x : new int[] {-1, -49, -51, -99, MIN}) {
            refusesAlone(ROOM, 0, x, SIZE);
        }

        says("17 LACK: nothing stands there: NULL.");
        for (int x : new int[] {0, 1, -1, MIN, MAX}) {
            refusesAlone(LACK, x, x, NULL);
        }
    }

    private static void termsOfSteps() {
        section("Terms");
        TollRules t = says("A STEP is each RULE that is begun (also those that others ask).");
        int plus = make(t, PLUS, 1);
        int lack = make(t, LACK, 0);
        takes(t, plus, 1);
        takes(t, make(t, THEN, plus, plus), 3);
        takes(t, make(t, TWICE, plus), 3);
        takes(t, make(t, LESS, plus, plus), 3);
        takes(t, make(t, IF, plus, plus), 3);
        takes(t, make(t, IF, make(t, TIMES, 0), plus), 2);
        takes(t, make(t, ELSE, plus, plus), 2);
        takes(t, make(t, ELSE, lack, plus), 3);
        takes(t, make(t, ELSE, make(t, THEN, plus, lack), plus), 5);
        int now = make(t, NOW, make(t, TWICE, plus), 0);
        due("steps() of NOW as it is made", t.steps(), 3);
        takes(t, now, 1);
        refuses(t, lack, 1, NULL, lack);
        due("steps() of a RULE that is refused", t.steps(), 1);
        refuses(t, make(t, THEN, lack, plus), 1, NULL, lack);
        due("steps() of a RULE that is refused ahead of b", t.steps(), 2);
    }

    private static void termsOfSpent() {
        section("Terms");
        TollRules t = says("A call has 64 STEPS at most;");
        int all = taking(t, 64);
        takes(t, all, 64);
        takes(t, all, 64);
        make(t, NOW, all, 3);
        due("steps() of NOW of 64", t.steps(), 64);
        int eight = taking(t, 8);
        made(t, 0, 8, 7, 6, 5, 4, 3, 2, 1);
        due("each, 8 items of 8 STEPS", t.each(eight, 0), 8);
        due("steps()", t.steps(), 64);
        due("order, 8 items of 8 STEPS", t.order(eight, 0), 8);
        due("steps()", t.steps(), 64);
        due("keep, 8 items of 8 STEPS", t.keep(eight, 0), 8);
        due("steps()", t.steps(), 64);
        stands(t, 0, 1, 2, 3, 4, 5, 6, 7, 8);
        due("until, 4 rounds of 8 and 8 STEPS", t.until(eight, eight, 5, 4), 4);
        due("steps()", t.steps(), 64);

        t = says("the 65th RULE is not begun: SPENT.");
        int lack = make(t, LACK, 0);
        int tick = make(t, TICK, 0);
        int long62 = taking(t, 62);
        int long63 = taking(t, 63);
        refuses(t, make(t, THEN, long62, lack), 0, NULL, lack);
        refuses(t, make(t, THEN, long63, lack), 0, SPENT, lack);
        due("steps()", t.steps(), 64);
        takes(t, make(t, THEN, long62, tick), 64);
        due("has(0), TICK is the 64th", t.has(0), 1);
        refuses(t, make(t, THEN, long63, tick), 0, SPENT, tick);
        refuses(t, make(t, LESS, long63, tick), 0, SPENT, tick);
        refuses(t, make(t, IF, long63, tick), 1, SPENT, tick);
        refuses(t, make(t, TWICE, long63), 0, SPENT, long63);
        due("has(0), TICK is the 65th", t.has(0), 1);
        due("NOW of 65", t.rule(NOW, make(t, THEN, long63, tick), 0), SPENT);
        due("failed(1)", t.failed(1), tick);
        gives(t, tick, 0, 2);
        spentOverRows();
    }

    private static void spentOverRows() {
        TollRules t = new TollRules();
        int seven = taking(t, 7);
        int eight = taking(t, 8);
        due("row(0, 9)", t.row(0, 9), 1);
        spendsAt("each", t.each(eight, 0), t, eight);
        spendsAt("keep", t.keep(eight, 0), t, eight);
        spendsAt("order", t.order(eight, 0), t, eight);
        spendsAt("until, the RULE", t.until(eight, eight, 5, 5), t, eight);
        spendsAt("until, the RULE of the last round", t.until(seven, make(t, PLUS, 1), 5, 9), t, seven);
        int long64 = taking(t, 64);
        int test = make(t, PLUS, 1);
        spendsAt("until, the test of the last round", t.until(long64, test, 5, 1), t, test);
    }

    private static void spendsAt(String call, int answer, TollRules t, int rule) {
        due(call, answer, SPENT);
        due("failed(0) of " + call, t.failed(0), 5);
        due("failed(1) of " + call, t.failed(1), rule);
        due("steps() of " + call, t.steps(), 64);
    }

    private static void termsOfWhatStays() {
        section("Terms");
        TollRules t = says("What TICK, OWN have done stays, whatever comes behind.");
        int tick = make(t, TICK, 0);
        int own = make(t, OWN, 1);
        int lack = make(t, LACK, 0);
        int both = make(t, THEN, tick, own);
        int refused = make(t, THEN, both, lack);
        int spent = make(t, THEN, both, taking(t, 63));
        due("row(0, 1)", t.row(0, 1), 1);
        due("apply, refused", t.apply(refused, 0), NULL);
        due("apply, SPENT", t.apply(spent, 0), SPENT);
        due("each, refused", t.each(refused, 0), NULL);
        due("keep, refused", t.keep(refused, 0), NULL);
        due("order, refused", t.order(refused, 0), NULL);
        due("until, refused", t.until(refused, own, 0, 1), NULL);
        due("until, its test refused", t.until(both, lack, 0, 1), NULL);
        due("NOW, refused", t.rule(NOW, refused, 0), NULL);
        due("ELSE", t.apply(make(t, ELSE, refused, lack), 0), NULL);
        due("LESS", t.apply(make(t, LESS, both, lack), 0), NULL);
        due("IF", t.apply(make(t, IF, both, lack), 0), NULL);
        due("has(0)", t.has(0), 11);
        gives(t, own, 0, 12);
        gives(t, tick, 0, 12);
    }

    private static void termsOfAnswers() {
        section("Terms");
        says("ANSWERS: BAD -1 (there is no such thing, a number is not as told), FULL -2;");
        due("BAD", TollRules.BAD, -1);
        due("FULL", TollRules.FULL, -2);
        due("NONE", TollRules.NONE, NONE);
        TollRules t = new TollRules();
        due("apply(0, 0)", t.apply(0, 0), -1);
        due("row(0, 11)", t.row(0, 11), -1);
        for (int k = 0; k < 40; k++) {
            t.rule(LACK, 0, 0);
        }
        due("rule(LACK, 0, 0)", t.rule(LACK, 0, 0), -2);

        t = says("FAILURES: -11 ZERO, -12 INDEX, -13 NULL, -14 SIZE, -15 SPENT.");
        due("row(0, 0)", t.row(0, 0), 1);
        due("ZERO", t.apply(make(t, REST, 0), 1), -11);
        due("INDEX", t.apply(make(t, LATE, 0), 1), -12);
        due("NULL", t.apply(make(t, LACK, 0), 1), -13);
        due("SIZE", t.apply(make(t, ROOM, 0), -1), -14);
        due("SPENT", t.apply(taking(t, 65), 1), -15);
    }

    private static void termsOfBadAndFull() {
        section("Terms");
        says("BAD, FULL change nothing;");
        unchanged("row(4, 1)", t -> t.row(4, 1), BAD);
        unchanged("row(0, 11)", t -> t.row(0, 11), BAD);
        unchanged("share(4, 0)", t -> t.share(4, 0), BAD);
        unchanged("share(0, 4)", t -> t.share(0, 4), BAD);
        unchanged("put(4, 0, 1)", t -> t.put(4, 0, 1), BAD);
        unchanged("rule(18, 0, 0)", t -> t.rule(18, 0, 0), BAD);
        unchanged("rule(NOW, 20, 0)", t -> t.rule(NOW, 20, 0), BAD);
        unchanged("apply(20, 0)", t -> t.apply(20, 0), BAD);
        unchanged("each(3, 4)", t -> t.each(3, 4), BAD);
        unchanged("keep(3, 4)", t -> t.keep(3, 4), BAD);
        unchanged("order(3, 4)", t -> t.order(3, 4), BAD);
        unchanged("fold(5, 0, 1)", t -> t.fold(5, 0, 1), BAD);
        unchanged("until(3, 0, 1, 31)", t -> t.until(3, 0, 1, 31), BAD);
        unchanged("failed(2)", t -> t.failed(2), BAD);
        unchanged("count(5)", t -> t.count(5), BAD);
        unchangedIfFull("rule(TICK, 0, 0) of 40", t -> t.rule(TICK, 0, 0), FULL);
        unchangedIfFull("rule(NOW, 3, 0) of 40", t -> t.rule(NOW, 3, 0), FULL);
    }

    private static void termsOfFailures() {
        section("Terms");
        says("FAILURES but as told.");
        String[] told = {"steps()", "failed(0)", "failed(1)", "count(1)", "count(2)"};
        String[] ticked = {"steps()", "failed(0)", "failed(1)", "count(1)", "count(2)", "has(1)", "RULE 3", "RULE 9",
            "RULE 17"};
        changes("apply(1, 5), ZERO", t -> t.apply(1, 5), ZERO, told);
        changes("apply(4, 4), INDEX", t -> t.apply(4, 4), INDEX, told);
        changes("apply(8, 4), NULL", t -> t.apply(8, 4), NULL, told);
        changes("apply(7, -4), SIZE", t -> t.apply(7, -4), SIZE, told);
        changes("apply(16, 1), SPENT", t -> t.apply(16, 1), SPENT, told);
        changes("apply(9, 1), ZERO behind TICK", t -> t.apply(9, 1), ZERO, ticked);
        changes("each(1, 0)", t -> t.each(1, 0), ZERO, told);
        changes("keep(1, 0)", t -> t.keep(1, 0), ZERO, told);
        changes("order(1, 0)", t -> t.order(1, 0), ZERO, told);
        changes("until(1, 0, 5, 3)", t -> t.until(1, 0, 5, 3), ZERO, told);
        changes("until(0, 1, 5, 3)", t -> t.until(0, 1, 5, 3), ZERO, told);
        changes("rule(NOW, 1, 5)", t -> t.rule(NOW, 1, 5), ZERO, told);
        changes("fold(4, 0, 5)", t -> t.fold(4, 0, 5), ZERO, "failed(0)", "failed(1)", "count(2)");
        unchanged("put(0, 4, 1)", t -> t.put(0, 4, 1), INDEX);
        unchanged("put(3, 0, 1)", t -> t.put(3, 0, 1), NULL);
    }
}
