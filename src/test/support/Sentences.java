import java.io.IOException;
import java.nio.file.Files;
import java.nio.file.Path;
import java.util.ArrayList;
import java.util.Arrays;
import java.util.LinkedHashMap;
import java.util.List;
import java.util.Map;

/**
 * What a test by the document's sentences is made of. An answer that is not as due is told with the words of the
 * sentence that is broken. In the end these words are held against the document, so that no sentence of a section
 * is left without a test and none is tested that does not stand there.
 */
abstract class Sentences {
    private static final Path DOCUMENT = Path.of("../shared/DOC.md");
    static final int PLUS = 0, TIMES = 1, BY = 2, REST = 3, KEPT = 4, SEEN = 5, ITEM = 6, LATE = 7;
    static final int THEN = 8, TWICE = 9, IF = 10, ELSE = 11, TICK = 12, OWN = 13, NOW = 14;
    static final int ROOM = 15, LESS = 16, LACK = 17;
    static final int BAD = -1, FULL = -2, ZERO = -11, INDEX = -12, NULL = -13, SIZE = -14, SPENT = -15;
    static final long NONE = Long.MIN_VALUE;
    static final int MIN = Integer.MIN_VALUE, MAX = Integer.MAX_VALUE;
    static final int[] NO_PLACES = {-1, 8, MIN, MAX};
    static final int[] NO_ROWS = {-1, 4, MIN, MAX};
    /** Of busy(), which has 20 RULES. */
    static final int[] NO_RULES = {-1, 20, 39, 40, MIN, MAX};
    static final int[] NO_ITEMS_OF_4 = {-1, 4, 9, 10, MIN, MAX};

    interface Call {
        long on(TollRules t);
    }

    private static final Map<String, List<String>> quoted = new LinkedHashMap<>();
    private static String section = "";
    private static String sentence = "";
    private static int asked = 0;
    private static int wrong = 0;

    /** Runs all parts, which are due for these sections; ends with exit code 1 if something is not as due. */
    static void runAll(String sections, Runnable... parts) throws IOException {
        for (Runnable part : parts) {
            attempt(part);
        }
        holdAgainstDocument(sections);
        System.out.println(wrong == 0 ? asked + " answers are as due" : wrong + " answers are not as due");
        if (wrong != 0) {
            System.exit(1);
        }
    }

    /** No call may throw: one that does is told with its sentence, and the other parts are still run. */
    private static void attempt(Runnable part) {
        try {
            part.run();
        } catch (RuntimeException | StackOverflowError thrown) {
            wrong++;
            System.out.println(section + ", \"" + sentence + "\": a call threw " + thrown);
        }
    }

    static void section(String name) {
        section = name;
        quoted.putIfAbsent(name, new ArrayList<>());
    }

    /** From here on, answers are asked for these words of the document; a new object for them. */
    static TollRules says(String words) {
        sentence = words;
        quoted.get(section).add(words);
        return new TollRules();
    }

    static void due(String call, long got, long want) {
        asked++;
        if (got != want) {
            wrong++;
            System.out.println(section + ", \"" + sentence + "\": " + call + " answered " + got + ", due is " + want);
        }
    }

    static int make(TollRules t, int kind, int a) {
        return make(t, kind, a, 0);
    }

    static int make(TollRules t, int kind, int a, int b) {
        int next = t.count(0);
        due("rule(" + kind + ", " + a + ", " + b + ")", t.rule(kind, a, b), next);
        return next;
    }

    /** A RULE that gives x itself, by so many STEPS. */
    static int taking(TollRules t, int steps) {
        if (steps == 1) {
            return make(t, PLUS, 0);
        }
        if (steps == 2) {
            int zero = make(t, TIMES, 0);
            return make(t, IF, zero, zero);
        }
        if (steps % 2 == 1) {
            return make(t, TWICE, taking(t, steps / 2));
        }
        return make(t, THEN, taking(t, 2), taking(t, steps - 3));
    }

    static void gives(TollRules t, int rule, int x, int want) {
        due("apply(" + rule + ", " + x + ")", t.apply(rule, x), 1);
        due("result() of apply(" + rule + ", " + x + ")", t.result(), want);
    }

    static void givesAlone(int kind, int a, int x, int want) {
        TollRules t = new TollRules();
        gives(t, make(t, kind, a), x, want);
    }

    static void refuses(TollRules t, int rule, int x, int failure, int at) {
        due("apply(" + rule + ", " + x + ")", t.apply(rule, x), failure);
        due("failed(0) of apply(" + rule + ", " + x + ")", t.failed(0), -10 - failure);
        due("failed(1) of apply(" + rule + ", " + x + ")", t.failed(1), at);
    }

    static void refusesAlone(int kind, int a, int x, int failure) {
        TollRules t = new TollRules();
        make(t, PLUS, 0);
        refuses(t, make(t, kind, a), x, failure, 1);
    }

    static void takes(TollRules t, int rule, int steps) {
        due("apply(" + rule + ", 1)", t.apply(rule, 1), 1);
        due("steps() of apply(" + rule + ", 1)", t.steps(), steps);
    }

    static void made(TollRules t, int r, int... items) {
        due("row(" + r + ", " + items.length + ")", t.row(r, items.length), 1);
        for (int i = 0; i < items.length; i++) {
            due("put(" + r + ", " + i + ", " + items[i] + ")", t.put(r, i, items[i]), 1);
        }
    }

    static void stands(TollRules t, int r, int... items) {
        for (int i = 0; i < items.length; i++) {
            due("item(" + r + ", " + i + ")", t.item(r, i), items[i]);
        }
        due("item(" + r + ", " + items.length + ")", t.item(r, items.length), NONE);
        due("put(" + r + ", " + items.length + ", 1)", t.put(r, items.length, 1), INDEX);
    }

    static void isNothing(TollRules t, int r) {
        due("item(" + r + ", 0)", t.item(r, 0), NONE);
        due("put(" + r + ", 0, 1)", t.put(r, 0, 1), NULL);
    }

    /** An object with something of all that can be changed; ROW 2 has no items, ROW 3 is NOTHING. */
    static TollRules busy() {
        TollRules t = new TollRules();
        for (int p = 0; p <= 7; p++) {
            t.place(p, 10 * p - 20);
        }
        t.row(0, 4);
        t.put(0, 0, 5);
        t.put(0, 2, -3);
        t.put(0, 3, 7);
        t.share(1, 0);
        t.row(2, 0);
        int[][] rules = {{PLUS, 3, 0}, {BY, 0, 0}, {OWN, 5, 0}, {TICK, 1, 0}, {ITEM, 0, 0}, {LATE, 1, 0}, {ELSE, 1, 0},
            {ROOM, 0, 0}, {LACK, 0, 0}, {THEN, 3, 1}, {REST, 2, 0}, {TWICE, 0, 0}, {TWICE, 11, 0}, {TWICE, 12, 0},
            {TWICE, 13, 0}, {TWICE, 14, 0}, {TWICE, 15, 0}, {SEEN, 1, 0}, {KEPT, 4, 0}, {NOW, 2, 8}};
        for (int[] rule : rules) {
            t.rule(rule[0], rule[1], rule[2]);
        }
        t.apply(6, 2);
        t.apply(7, -1);
        t.until(2, 10, 1, 5);
        return t;
    }

    static TollRules full(TollRules t) {
        for (int k = t.count(0); k < 40; k++) {
            t.rule(PLUS, k, 0);
        }
        return t;
    }

    /** All that an object can tell, also by what its RULES give then. */
    private static Map<String, Long> told(TollRules t) {
        Map<String, Long> all = new LinkedHashMap<>();
        for (int p = 0; p <= 7; p++) {
            all.put("has(" + p + ")", t.has(p));
        }
        all.put("result()", (long) t.result());
        all.put("steps()", (long) t.steps());
        for (int what = 0; what <= 1; what++) {
            all.put("failed(" + what + ")", (long) t.failed(what));
        }
        for (int what = 0; what <= 4; what++) {
            all.put("count(" + what + ")", (long) t.count(what));
        }
        for (int r = 0; r <= 3; r++) {
            for (int i = 0; i <= 10; i++) {
                all.put("item(" + r + ", " + i + ")", t.item(r, i));
            }
            all.put("put(" + r + ", -1, 0)", (long) t.put(r, -1, 0));
        }
        for (int rule = 0; rule < t.count(0); rule++) {
            long answer = t.apply(rule, 1);
            all.put("RULE " + rule, answer == 1 ? t.result() : NONE + answer);
        }
        for (int r = 0; r <= 3; r++) {
            t.put(r, 0, 1000 + r);
            for (int q = 0; q <= 3; q++) {
                all.put("item(" + q + ", 0) as ROW " + r + " is put", t.item(q, 0));
            }
        }
        return all;
    }

    static void unchanged(String name, Call call, long answer) {
        changes(name, call, answer);
    }

    static void unchangedIfFull(String name, Call call, long answer) {
        compare(name, full(busy()), full(busy()), call, answer);
    }

    /** A busy object is changed by the call in nothing but what is named. */
    static void changes(String name, Call call, long answer, String... named) {
        compare(name, busy(), busy(), call, answer, named);
    }

    private static void compare(String name, TollRules t, TollRules twin, Call call, long answer, String... named) {
        due(name, call.on(t), answer);
        Map<String, Long> got = told(t);
        Map<String, Long> want = told(twin);
        for (String key : named) {
            got.remove(key);
            want.remove(key);
        }
        due("how much can be told behind " + name, got.size(), want.size());
        for (String key : want.keySet()) {
            due(key + " behind " + name, got.getOrDefault(key, NONE), want.get(key));
        }
    }

    private static void holdAgainstDocument(String sections) throws IOException {
        if (!Files.isReadable(DOCUMENT)) {
            // The answers are no worse without the document; only the words can't be looked up.
            System.out.println("the words are not held against " + DOCUMENT + ": it can't be read");
            return;
        }
        Map<String, String> document = textsBySection(Files.readString(DOCUMENT));
        for (String name : document.keySet()) {
            if (name.matches(sections)) {
                section(name);
            }
        }
        for (Map.Entry<String, List<String>> part : quoted.entrySet()) {
            section = part.getKey();
            holdAgainst(document.getOrDefault(section, ""), part.getValue());
        }
    }

    private static Map<String, String> textsBySection(String document) {
        Map<String, String> texts = new LinkedHashMap<>();
        for (String part : document.split("\n## ")) {
            int end = part.indexOf('\n');
            if (end >= 0) {
                texts.put(part.substring(0, end).strip(), plain(part.substring(end)));
            }
        }
        return texts;
    }

    /** Without what is Java's face, and with single blanks. */
    private static String plain(String text) {
        return text.replaceAll("```\\w*", " ").replaceAll("`[^`]*`:", " ").replaceAll("\\s+", " ");
    }

    private static void holdAgainst(String text, List<String> sentences) {
        boolean[] tested = new boolean[text.length()];
        for (String each : sentences) {
            sentence = each;
            due("does it stand there", text.contains(each) ? 1 : 0, 1);
            for (int at = text.indexOf(each); at >= 0; at = text.indexOf(each, at + 1)) {
                Arrays.fill(tested, at, at + each.length(), true);
            }
        }
        for (int at = 0; at < tested.length; at++) {
            if (!tested[at] && text.charAt(at) != ' ') {
                sentence = text.substring(at);
                due("is it tested", 0, 1);
                return;
            }
        }
    }
}
