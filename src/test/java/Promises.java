/** For each promise of the document: ordinary inputs, the edges that it names, and wrong inputs. */
public final class Promises {
    private static final int[] WRONG_NUMBERS = {-1, -2, 1000, Integer.MIN_VALUE, Integer.MAX_VALUE};

    private static int calls = 0;
    private static int wrong = 0;

    public static void main(String[] args) {
        newObject();
        given();
        literal();
        collect();
        learn();
        split();
        splitOfLinesWithBothLiterals();
        answer();
        value();
        checkOfClauses();
        checkOfAnswers();
        shortenOfLines();
        shortenOfLiterals();
        turn();
        linesKindMember();
        text();
        unit();
        readOfGoodTexts();
        readOfRefusedTexts();
        readOfManyLines();
        readLeavesTheRest();
        System.out.println(calls + " answers looked at, " + wrong + " wrong");
        if (wrong != 0) {
            System.exit(1);
        }
    }

    private static void due(String what, Object got, Object want) {
        calls++;
        if (!want.equals(got)) {
            wrong++;
            System.out.println(what + " answered " + got + ", due is " + want);
        }
    }

    /** The number of lines, or -1 less the place, for a text in which | stands for byte 10. */
    private static int feed(ProofLines x, String text) {
        for (int i = 0; i < text.length(); i++) {
            char c = text.charAt(i) == '|' ? '\n' : text.charAt(i);
            due("unit of " + text, x.unit(c), true);
        }
        return x.read();
    }

    private static ProofLines of(int things, String text) {
        ProofLines x = new ProofLines(things);
        int read = feed(x, text);
        due("read of " + text, read, (int) text.chars().filter(c -> c == '|').count());
        return x;
    }

    private static String textOf(ProofLines x) {
        StringBuilder all = new StringBuilder();
        for (int i = 0; i < 100000; i++) {
            int b = x.text(i);
            if (b == -1) {
                break;
            }
            all.append(b == 10 ? '|' : (char) b);
        }
        return all.toString();
    }

    private static void dueText(String what, ProofLines x, String want) {
        due(what, textOf(x), want);
    }

    private static int thingsOf(ProofLines x) {
        int n = 0;
        while (n < 1000 && x.collect(n, true)) {
            n++;
        }
        return n;
    }

    private static void newObject() {
        ProofLines x = new ProofLines(4);
        due("lines of a new object", x.lines(), 0);
        dueText("text of a new object", x, "");
        due("check of a new object", x.check(), 0);
        due("shorten of a new object", x.shorten(), 0);
        due("read of a new object", x.read(), 0);
        due("learn of a new object", x.learn(), 0);
        dueText("nothing was collected", x, "l|");
        int[][] held = {{4, 4}, {1, 1}, {64, 64}, {63, 63}, {0, 1}, {-5, 1}, {65, 64},
            {Integer.MAX_VALUE, 64}, {Integer.MIN_VALUE, 1}};
        for (int[] pair : held) {
            due("things of " + pair[0], thingsOf(new ProofLines(pair[0])), pair[1]);
        }
    }

    private static void given() {
        ProofLines x = new ProofLines(2);
        for (int i = 0; i < 80; i++) {
            due("given", x.given(), i);
        }
        due("given at 80 lines", x.given(), -1);
        due("lines after it", x.lines(), 80);
        due("kind of a given line", x.kind(79), 0);
        due("member of a new given line", x.member(79, 0), -1);
    }

    private static void literal() {
        ProofLines x = new ProofLines(3);
        due("literal without lines", x.literal(0, 0, true), false);
        due("literal of line -1 without lines", x.literal(-1, 0, true), false);
        x.given();
        due("literal", x.literal(0, 2, true), true);
        due("literal twice", x.literal(0, 2, true), false);
        due("its opposite", x.literal(0, 2, false), true);
        due("its opposite twice", x.literal(0, 2, false), false);
        due("another one", x.literal(0, 0, false), true);
        due("of thing 3", x.literal(0, 3, true), false);
        for (int no : WRONG_NUMBERS) {
            due("literal of thing " + no, x.literal(0, no, true), false);
            due("literal of line " + no, x.literal(no, 1, true), false);
        }
        dueText("the line", x, "g 3 -3 -1|");
        x.given();
        due("literal of a line that is not the last", x.literal(0, 1, true), false);
        x.learn();
        due("literal of a learned line", x.literal(2, 1, true), false);
        x.answer();
        due("literal of an answer", x.literal(3, 1, true), false);
        due("literal of the given line ahead", x.literal(1, 1, true), false);
        dueText("the lines", x, "g 3 -3 -1|g|l|a|");
        ProofLines y = of(2, "g 1|g -1|");
        y.split(0);
        due("literal of a joined line", y.literal(2, 1, true), false);
        ProofLines full = new ProofLines(64);
        full.given();
        for (int i = 0; i < 128; i++) {
            due("literal " + i, full.literal(0, i / 2, i % 2 == 0), true);
        }
        due("literal 129", full.literal(0, 63, false), false);
        due("the last literal", full.member(0, 127), 126);
    }

    private static void collect() {
        ProofLines x = new ProofLines(3);
        due("collect", x.collect(2, false), true);
        due("collect twice", x.collect(2, false), false);
        due("collect the opposite", x.collect(2, true), true);
        due("collect thing 3", x.collect(3, true), false);
        for (int no : WRONG_NUMBERS) {
            due("collect thing " + no, x.collect(no, true), false);
        }
        due("collect thing 0", x.collect(0, true), true);
        due("lines when collected", x.lines(), 0);
        x.learn();
        dueText("what was collected", x, "l -3 3 1|");
    }

    private static void learn() {
        ProofLines x = new ProofLines(3);
        x.collect(1, true);
        x.collect(0, false);
        due("learn", x.learn(), 0);
        due("kind of a learned line", x.kind(0), 1);
        due("learn of nothing", x.learn(), 1);
        due("collect after learn", x.collect(1, true), true);
        for (int i = 2; i < 80; i++) {
            x.given();
        }
        due("learn at 80 lines", x.learn(), -1);
        due("lines at 80", x.lines(), 80);
        due("collected stays", x.collect(1, true), false);
        x.read();
        due("learn after it", x.learn(), 0);
        dueText("collected before", x, "l 2|");
    }

    private static void split() {
        ProofLines x = of(5, "g 3 1 -2|l -4 -1 3 5 4|");
        due("split", x.split(0), 2);
        dueText("the joined line", x, "g 3 1 -2|l -4 -1 3 5 4|j 3 -2 -4 5 4|");
        due("kind of a joined line", x.kind(2), 2);
        ProofLines turned = of(5, "l -1 2|g 2 1|");
        due("split, false ahead", turned.split(0), 2);
        dueText("the joined line, false ahead", turned, "l -1 2|g 2 1|j 2|");
        ProofLines three = of(2, "g 1|g 2|g -2|");
        due("split of the last two alone", three.split(0), -1);
        due("split of the last two", three.split(1), 3);
        due("split of j and g", three.split(1), -1);
        due("split without lines", new ProofLines(2).split(0), -1);
        due("split of one line", of(2, "g 1 -1|").split(0), -1);
        String[] refused = {"g 1|g 1|", "g -1|g -1|", "g 2|g -1|", "g 1|a -1|", "a 1|g -1|",
            "a 1|a -1|", "g 1|g -1|a|", "g 1|g -1|g|", "g|g|"};
        for (String text : refused) {
            ProofLines r = of(2, text);
            due("split of " + text, r.split(0), -1);
            dueText("lines after it", r, text);
        }
        ProofLines good = of(2, "g 1 2|g -1 -2|");
        for (int no : WRONG_NUMBERS) {
            due("split of thing " + no, good.split(no), -1);
        }
        due("split of thing 2 of 2", good.split(2), -1);
        due("lines after wrong splits", good.lines(), 2);
        ProofLines full = of(2, "g|".repeat(78) + "g 1|g -1|");
        due("split at 80 lines", full.split(0), -1);
        due("lines after it", full.lines(), 80);
    }

    private static void splitOfLinesWithBothLiterals() {
        ProofLines x = of(2, "g 1 -1 2|g 1|");
        due("split, both ahead", x.split(0), 2);
        dueText("without both", x, "g 1 -1 2|g 1|j 2|");
        ProofLines y = of(2, "g 1 2 -2|g -1 1 -2|");
        due("split, both behind", y.split(0), 2);
        dueText("with both of another thing", y, "g 1 2 -2|g -1 1 -2|j 2 -2|");
        due("both in one line alone", of(2, "g 1 -1|g 2|").split(0), -1);
    }

    private static void answer() {
        ProofLines x = new ProofLines(2);
        for (int i = 0; i < 80; i++) {
            due("answer", x.answer(), i);
        }
        due("answer at 80 lines", x.answer(), -1);
        due("lines after it", x.lines(), 80);
        due("kind of an answer", x.kind(0), 3);
        due("member of a new answer", x.member(79, 0), -1);
    }

    private static void value() {
        ProofLines x = new ProofLines(3);
        due("value without lines", x.value(0, 0, true), false);
        due("value of line -1 without lines", x.value(-1, 0, true), false);
        x.answer();
        due("value", x.value(0, 2, false), true);
        due("value twice", x.value(0, 2, false), false);
        due("value the other way", x.value(0, 2, true), false);
        due("value of another thing", x.value(0, 0, true), true);
        due("value of thing 3", x.value(0, 3, true), false);
        for (int no : WRONG_NUMBERS) {
            due("value of thing " + no, x.value(0, no, true), false);
            due("value of line " + no, x.value(no, 1, true), false);
        }
        x.answer();
        due("value of an answer that is not the last", x.value(0, 1, true), false);
        x.given();
        due("value of a given line", x.value(2, 1, true), false);
        x.learn();
        due("value of a learned line", x.value(3, 1, true), false);
        dueText("the lines", x, "a -3 1|a|g|l|");
        ProofLines y = of(2, "g 1|g -1|");
        y.split(0);
        due("value of a joined line", y.value(2, 1, true), false);
    }

    private static void dueCheck(int things, String text, int want) {
        due("check of " + text, of(things, text).check(), want);
    }

    private static void checkOfClauses() {
        dueCheck(3, "", 0);
        dueCheck(3, "g|g 1|g -1|", 0);
        dueCheck(3, "l|", 1);
        dueCheck(3, "j|", 1);
        dueCheck(3, "l 1 -1|j -2 3 2|", 0);
        dueCheck(3, "g|l|j|", 0);
        dueCheck(3, "g 1|l 1|", 0);
        dueCheck(3, "g 1|l -1|", 2);
        dueCheck(3, "g 1|l 1 2|", 0);
        dueCheck(3, "g 1 2|l 1|", 2);
        dueCheck(3, "g 1 2|g 1 -2|l 1|", 0);
        dueCheck(3, "g 1 2|l 1|g 1 -2|", 2);
        dueCheck(3, "l 1|l 1|", 1);
        dueCheck(3, "g 2|l 1|l 1|l 3|", 2);
        dueCheck(3, "g 2|j 1|l 1|", 2);
        // The line itself and the lines behind it are no lines ahead of it.
        dueCheck(3, "g 1 2|g -1 2|g 1 -2|g -1 -2|l|", 5);
        dueCheck(3, "g 1 2|g -1 2|g 1 -2|g -1 -2|l 1|l|", 0);
        // An answer is no clause.
        dueCheck(1, "a 1|l 1|", 2);
        dueCheck(1, "g 1|a 1|l 1|", 0);
        // A literal that holds leaves nothing to follow; both literals of a thing are two.
        dueCheck(3, "g 1|g 1 2|l 2|", 3);
        dueCheck(3, "g 1 -1|l 1|", 2);
        dueCheck(3, "g 1 -1 2|l 2|", 2);
        checkOfChain(true, 63, true, true);
        checkOfChain(true, 63, false, false);
        checkOfChain(true, 0, true, true);
        checkOfChain(false, 63, true, false);
    }

    /** Each thing leads to the next one; the clauses stand from the last thing back. */
    private static void checkOfChain(boolean started, int thing, boolean truth, boolean right) {
        ProofLines x = new ProofLines(64);
        for (int i = 62; i >= 0; i--) {
            int line = x.given();
            x.literal(line, i, false);
            x.literal(line, i + 1, true);
        }
        if (started) {
            x.literal(x.given(), 0, true);
        }
        x.collect(thing, truth);
        int learned = x.learn();
        due("check of a chain", x.check(), right ? 0 : 1 + learned);
    }

    private static void checkOfAnswers() {
        dueCheck(1, "a 1|", 0);
        dueCheck(1, "a -1|", 0);
        dueCheck(1, "a|", 1);
        dueCheck(2, "a 1|", 1);
        dueCheck(2, "a 2 -1|", 0);
        dueCheck(2, "g 1 -2|a -2 -1|", 0);
        dueCheck(2, "g 1 -2|g 2|a -2 -1|", 3);
        dueCheck(2, "g 1 -2|a -2 -1|g 2|", 0);
        dueCheck(2, "g|a -2 -1|", 2);
        dueCheck(2, "g 1 -1|a -2 -1|", 0);
        dueCheck(2, "g 1|l 1 2|a 1 -2|", 0);
        dueCheck(2, "g 1|l 2|a 1 -2|", 2);
        // Only GIVEN lines bind an answer.
        dueCheck(2, "g|l 2|j 2|", 0);
        dueCheck(2, "g 1 2|g 1 -2|l 1 2|a 1 2|a -1 2|", 5);
        ProofLines x = of(2, "l 2 -2|a 1 2|");
        due("check, a learned line not met", x.check(), 0);
        dueCheck(2, "g 2 1|g 2 -1|l 2|l 2 1|a 1 2|", 0);
    }

    private static void dueShorten(int things, String text, String want) {
        ProofLines x = of(things, text);
        int left = (int) want.chars().filter(c -> c == '|').count();
        due("shorten of " + text, x.shorten(), left);
        due("lines after shorten of " + text, x.lines(), left);
        dueText("lines after shorten of " + text, x, want);
    }

    private static void shortenOfLines() {
        dueShorten(3, "", "");
        dueShorten(3, "g|g 1|g 1|", "g|g 1|g 1|");
        dueShorten(3, "a|", "a|");
        dueShorten(3, "a|a 1|a 2|", "a 2|");
        dueShorten(3, "l 1|", "l 1|");
        dueShorten(3, "l 1|l 2|", "l 2|");
        dueShorten(3, "l 1|g 2|", "g 2|");
        // A line that is not RIGHT keeps those RIGHT that need it.
        dueShorten(3, "l 1|l 1|", "l 1|l 1|");
        dueShorten(3, "l 1|l 1 2|", "l 1|l 1|");
        dueShorten(3, "j 1|g 2|l 1|", "j 1|g 2|l 1|");
        // From the last but one back: of two that do, the first one stays.
        dueShorten(3, "g 1 2|g -1 2|g 1 -2|g -1 -2|l 1|l -1|l 2|l|",
                "g 1 2|g -1 2|g 1 -2|g -1 -2|l 1|l|");
        dueShorten(2, "g 1 2|g 1 -2|g -1 2|g -1 -2|a 1 2|l 1|a 2|l|a 1|",
                "g 1 2|g 1 -2|g -1 2|g -1 -2|a 1|");
        // A line behind that is not RIGHT keeps nothing.
        dueShorten(3, "g 1 2|g 1 -2|l 1|l 3|", "g 1 2|g 1 -2|l 3|");
        // One that was needed by a line that went goes too.
        dueShorten(4, "g 1|g -1 2 3|g -1 2 -3|l 2|l 2 4|l 1|", "g 1|g -1 2 3|g -1 2 -3|l 1|");
        dueShorten(1, "g 1|l 1|a 1|", "g 1|a 1|");
    }

    private static void shortenOfLiterals() {
        dueShorten(3, "g 1|l 2 1 3|", "g 1|l 1|");
        dueShorten(3, "g 1|j 2 1 3|", "g 1|j 1|");
        dueShorten(3, "g|l 2 1 3|", "g|l|");
        // From the first literal on: of two that would do alone the second one stays.
        dueShorten(3, "g 1|g 2|l 1 2|", "g 1|g 2|l 2|");
        dueShorten(3, "g 1|g 2|l 2 1|", "g 1|g 2|l 1|");
        dueShorten(3, "l 1 -1|", "l 1 -1|");
        dueShorten(3, "l 2 1 3 -1|", "l 1 -1|");
        dueShorten(3, "g -1|l 1 -1|", "g -1|l -1|");
        // Not of GIVEN and ANSWER lines, nor of lines that are not RIGHT.
        dueShorten(3, "g 1|g 1 2|a 1 2 3|", "g 1|g 1 2|a 1 2 3|");
        dueShorten(3, "g 1|l 2 3|", "g 1|l 2 3|");
        dueShorten(3, "g 1|j -1 2|", "g 1|j -1 2|");
        // A line stays for those behind it, and both get shorter.
        dueShorten(4, "g 1 2|g 1 -2|g -1 3|g -1 -3|l 4 1|l|",
                "g 1 2|g 1 -2|g -1 3|g -1 -3|l|");
        dueShorten(5, "g 1 2|g 1 -2|g -1 3 4|g -1 3 -4|l 1|l 5 3|",
                "g 1 2|g 1 -2|g -1 3 4|g -1 3 -4|l 1|l 3|");
        shortenOfLineThatTurnsRight();
        shortenOfFullLines();
    }

    /** The last line needs both learned ones; 3 5 is RIGHT only when 6 1 has got shorter. */
    private static void shortenOfLineThatTurnsRight() {
        String givens = "g 1 2|g 1 -2|g -1 3 4|g -1 3 -4|g 12 -6|g 12 -5|g -3 9|g -9 10|"
                + "g -10 -1 11|g -10 -1 -11|";
        ProofLines x = of(12, givens + "l 6 1|l 3 5|l 12|");
        due("check before it turns right", x.check(), 12);
        due("shorten", x.shorten(), 13);
        dueText("lines after it", x, givens + "l 1|l 3|l|");
        due("check after it", x.check(), 0);
    }

    /** As many lines, and as many literals of one line, as there can be. */
    private static void shortenOfFullLines() {
        dueShorten(2, "g|".repeat(80), "g|".repeat(80));
        dueShorten(2, "l|".repeat(80), "l|l|");
        for (String ahead : new String[] {"", "g|"}) {
            ProofLines x = of(64, ahead);
            for (int i = 0; i < 128; i++) {
                x.collect(i / 2, i % 2 == 0);
            }
            int line = x.learn();
            due("the last one of 128 literals", x.member(line, 127), 126);
            due("shorten of 128 literals", x.shorten(), line + 1);
            dueText("what is left of them", x, ahead.isEmpty() ? "l 64 -64|" : "g|l|");
        }
    }

    private static void turn() {
        ProofLines x = of(4, "g 1 2|l -2 3|j 3 4|a 1 -2 3 -4|");
        x.collect(1, false);
        x.collect(3, true);
        x.collect(0, false);
        due("turn", x.turn(0, 1), 7);
        dueText("lines turned", x, "g 2 1|l -1 3|j 3 4|a 2 -1 3 -4|");
        due("collected is turned: -2", x.collect(1, false), false);
        due("collected is turned: -1", x.collect(0, false), false);
        due("turn the other way", x.turn(3, 2), 6);
        x.learn();
        dueText("learned after it", x, "g 2 1|l -1 4|j 4 3|a 2 -1 4 -3|l -1 3 -2|");
        due("turn of one thing", x.turn(2, 2), 0);
        for (int no : WRONG_NUMBERS) {
            due("turn from " + no, x.turn(no, 0), -1);
            due("turn to " + no, x.turn(0, no), -1);
            due("turn of both " + no, x.turn(no, no), -1);
        }
        due("turn from 4 of 4", x.turn(4, 0), -1);
        due("turn to 4 of 4", x.turn(0, 4), -1);
        dueText("after wrong turns", x, "g 2 1|l -1 4|j 4 3|a 2 -1 4 -3|l -1 3 -2|");
        due("turn without lines", new ProofLines(4).turn(0, 1), 0);
        ProofLines held = of(2, "g 1|");
        held.turn(0, 1);
        due("has what it was turned to", held.literal(0, 1, true), false);
        due("has no more what it had", held.literal(0, 0, true), true);
        ProofLines c = new ProofLines(64);
        c.collect(63, true);
        due("turn of what is collected alone", c.turn(0, 63), 1);
        due("it was turned", c.collect(0, true), false);
        due("it is free", c.collect(63, true), true);
    }

    private static void linesKindMember() {
        ProofLines x = of(64, "g 1 -2 64|l -64|j|a 3|");
        due("lines", x.lines(), 4);
        int[] kinds = {0, 1, 2, 3, -1};
        for (int i = 0; i < kinds.length; i++) {
            due("kind " + i, x.kind(i), kinds[i]);
        }
        int[][] members = {{1, 2, 127, -1}, {126, -1}, {-1}, {5, -1}, {-1}};
        for (int i = 0; i < members.length; i++) {
            for (int k = 0; k < members[i].length; k++) {
                due("member " + i + " " + k, x.member(i, k), members[i][k]);
            }
        }
        for (int no : WRONG_NUMBERS) {
            due("kind " + no, x.kind(no), -1);
            due("member of line " + no, x.member(no, 0), -1);
            due("member " + no, x.member(0, no), -1);
        }
        // A row that was used before has none of its old literals.
        feed(x, "g|");
        due("member of a line read anew", x.member(0, 0), -1);
        due("kind behind it", x.kind(1), -1);
        due("member behind it", x.member(1, 0), -1);
    }

    private static void text() {
        String text = "g 1 9 10 64 -1 -9 -10 -64|l|j -11 20|a -19 30 7|g|";
        ProofLines x = of(64, text);
        dueText("text", x, text);
        due("byte 10", x.text(text.indexOf('|')), 10);
        due("behind the text", x.text(text.length()), -1);
        for (int no : WRONG_NUMBERS) {
            due("text " + no, x.text(no), -1);
        }
        x.collect(0, true);
        due("collected has no text", x.text(text.length()), -1);
        StringBuilder all = new StringBuilder("g");
        for (int i = 1; i <= 64; i++) {
            all.append(" -").append(i);
        }
        dueText("all things", of(64, all + "|"), all + "|");
    }

    private static void unit() {
        ProofLines x = new ProofLines(2);
        for (int u = -2; u <= 258; u++) {
            due("unit " + u, x.unit(u), u >= 0 && u <= 255);
        }
        due("unit of the least", x.unit(Integer.MIN_VALUE), false);
        due("unit of the most", x.unit(Integer.MAX_VALUE), false);
        due("read at byte 0", x.read(), -1);
        ProofLines y = new ProofLines(2);
        y.unit('g');
        y.unit(266);
        due("256 and 10 was not taken", y.read(), -2);
        // More than 512 calls: free by the document, but the 4,000 stands in it.
        ProofLines full = new ProofLines(2);
        int taken = 0;
        for (int i = 0; i < 4005; i++) {
            taken += full.unit(i == 0 ? 'g' : ' ') ? 1 : 0;
        }
        due("units taken", taken, 4000);
        due("read of them", full.read(), -3);
        due("unit after it", full.unit('g'), true);
    }

    private static void dueRead(int things, String text, int want) {
        ProofLines x = of(things, "g 1|l 1|");
        due("read of " + text, feed(x, text), want);
        dueText("lines after read of " + text, x, want < 0 ? "g 1|l 1|" : text);
        due("the text is gone", x.read(), 0);
        due("no lines then", x.lines(), 0);
    }

    private static void readOfGoodTexts() {
        dueRead(4, "", 0);
        dueRead(4, "g|", 1);
        dueRead(4, "g 1 -1|l 4 -4|j 2 3|a 1 -2|a|", 5);
        dueRead(64, "g 64 -64 10 9|", 1);
        dueRead(1, "a 1|a -1|g 1 -1|", 3);
        dueRead(10, "l 10 1|", 1);
    }

    private static void refused(int things, String text, int place) {
        dueRead(things, text, -1 - place);
    }

    private static void readOfRefusedTexts() {
        // A letter.
        for (String letter : new String[] {"x", "G", " ", "|", "1", "-", "f", "h", "\0", "\u00ff"}) {
            refused(4, letter, 0);
            refused(4, "g|" + letter, 2);
            refused(4, "g 1|" + letter + " 1|", 4);
        }
        // Behind a letter.
        refused(4, "gg|", 1);
        refused(4, "g1|", 1);
        refused(4, "g-1|", 1);
        refused(4, "l\t1|", 1);
        // Behind a blank and a -.
        refused(4, "g |", 2);
        refused(4, "g  1|", 2);
        refused(4, "g x|", 2);
        refused(4, "g +1|", 2);
        refused(4, "g -|", 3);
        refused(4, "g - 1|", 3);
        refused(4, "g --1|", 3);
        refused(4, "g 1 |", 4);
        // Behind a number.
        refused(4, "g 1x|", 3);
        refused(4, "g 1-2|", 3);
        refused(4, "g 1/|", 3);
        refused(4, "g 1:|", 3);
        // A number.
        refused(4, "g 0|", 2);
        refused(4, "g -0|", 3);
        refused(4, "g 01|", 2);
        refused(4, "g 00|", 2);
        refused(4, "g 5|", 2);
        refused(4, "g 1 -5|", 5);
        refused(4, "g 10|", 2);
        refused(4, "g 4294967297|", 2);
        refused(4, "g 18446744073709551617|", 2);
        refused(64, "g 65|", 2);
        refused(64, "g 1 640|", 4);
        refused(64, "l 064|", 2);
        refused(4, "g 5x|", 2);
        refused(4, "g 0x|", 2);
        // Where the text ends.
        refused(4, "g", 1);
        refused(4, "g ", 2);
        refused(4, "g -", 3);
        refused(4, "g 1", 3);
        refused(4, "g 1|l", 5);
        refused(4, "g 1|a -2", 8);
        refused(4, "g 5", 2);
        refused(4, "g -0", 3);
        refused(4, "g 0", 2);
        refused(4, "g 1 1", 4);
        refused(4, "g 1 12", 4);
        // A literal twice, a thing twice.
        refused(4, "g 1 1|", 4);
        refused(4, "g 1 2 -1 -1|", 10);
        refused(4, "l 3 2 3|", 6);
        refused(4, "j -3 -3|", 6);
        refused(4, "a 1 1|", 4);
        refused(4, "a 1 -1|", 5);
        refused(4, "a -1 1|", 5);
        refused(4, "a 1 -1x", 5);
        refused(4, "g 1 1x", 4);
    }

    private static void readOfManyLines() {
        ProofLines x = new ProofLines(2);
        due("80 lines", feed(x, "g|".repeat(80)), 80);
        due("lines", x.lines(), 80);
        due("81 lines", feed(x, "l|".repeat(81)), -161);
        due("lines stay", x.lines(), 80);
        due("kinds stay", x.kind(0), 0);
        ProofLines y = new ProofLines(2);
        due("80 lines and a letter", feed(y, "g|".repeat(80) + "j"), -161);
        due("80 lines and no letter", feed(y, "g|".repeat(80) + "x"), -161);
        due("lines of y", y.lines(), 0);
    }

    private static void readLeavesTheRest() {
        ProofLines x = new ProofLines(3);
        x.collect(2, false);
        due("read", feed(x, "g 1|"), 1);
        due("read of a refused text", feed(x, "g 1|?"), -5);
        due("literal of the line that was read", x.literal(0, 1, true), true);
        due("collected stays", x.collect(2, false), false);
        due("learn after read", x.learn(), 1);
        dueText("lines", x, "g 1 2|l -3|");
    }
}
