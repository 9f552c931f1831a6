import java.util.ArrayList;
import java.util.List;
import java.util.function.Consumer;

/**
 * A test of its own for each sentence of the document that names a boundary case: too small, too
 * large, empty, full, a wrap-around, a refused call. In texts, | stands for byte 10.
 */
public final class Edges {
    private static final int MIN = Integer.MIN_VALUE;
    private static final int MAX = Integer.MAX_VALUE;

    private record Edge(String promise, String words, Runnable test) { }

    private static final List<Edge> EDGES = new ArrayList<>();

    private static String now = "";
    private static int answers = 0;
    private static int wrong = 0;

    public static void main(String[] args) {
        listTerms();
        listPromises1To5();
        listPromises6To9();
        listPromises10To12();
        listPromises13To16();
        listPromise17();
        for (Edge edge : EDGES) {
            now = "promise " + edge.promise + ": " + edge.words;
            runOne(edge);
        }
        System.out.println(EDGES.size() + " edges, " + answers + " answers, " + wrong + " wrong");
        if (wrong != 0) {
            System.exit(1);
        }
    }

    private static void runOne(Edge edge) {
        int before = answers;
        try {
            edge.test.run();
        } catch (RuntimeException e) {
            fail("a call threw " + e);
        }
        if (answers == before) {
            fail("nothing was looked at");
        }
    }

    private static void edge(String promise, String words, Runnable test) {
        EDGES.add(new Edge(promise, words, test));
    }

    private static void fail(String what) {
        wrong++;
        System.out.println(now + ": " + what);
    }

    private static void due(String call, Object got, Object want) {
        answers++;
        if (!want.equals(got)) {
            fail(call + " answered " + got + ", due is " + want);
        }
    }

    // ---- An object that is held to its 512 calls, since what later ones answer is free.

    private static final class Counted {
        private final ProofLines lines;
        private int calls = 0;

        Counted(int things) {
            lines = new ProofLines(things);
        }

        private ProofLines x() {
            calls++;
            if (calls == 513) {
                fail("the test itself makes more than 512 calls");
            }
            return lines;
        }

        void given(int want) {
            due("given()", x().given(), want);
        }

        void literal(int line, int thing, boolean truth, boolean want) {
            String call = "literal(" + line + ", " + thing + ", " + truth + ")";
            due(call, x().literal(line, thing, truth), want);
        }

        void collect(int thing, boolean truth, boolean want) {
            due("collect(" + thing + ", " + truth + ")", x().collect(thing, truth), want);
        }

        void learn(int want) {
            due("learn()", x().learn(), want);
        }

        void split(int thing, int want) {
            due("split(" + thing + ")", x().split(thing), want);
        }

        void answer(int want) {
            due("answer()", x().answer(), want);
        }

        void value(int line, int thing, boolean truth, boolean want) {
            String call = "value(" + line + ", " + thing + ", " + truth + ")";
            due(call, x().value(line, thing, truth), want);
        }

        void check(int want) {
            due("check()", x().check(), want);
        }

        void shorten(int want) {
            due("shorten()", x().shorten(), want);
        }

        void turn(int from, int to, int want) {
            due("turn(" + from + ", " + to + ")", x().turn(from, to), want);
        }

        void count(int want) {
            due("lines()", x().lines(), want);
        }

        void kind(int line, int want) {
            due("kind(" + line + ")", x().kind(line), want);
        }

        void member(int line, int i, int want) {
            due("member(" + line + ", " + i + ")", x().member(line, i), want);
        }

        void text(int i, int want) {
            due("text(" + i + ")", x().text(i), want);
        }

        void unit(int u, boolean want) {
            due("unit(" + u + ")", x().unit(u), want);
        }

        void units(String text) {
            for (int i = 0; i < text.length(); i++) {
                unit(text.charAt(i) == '|' ? 10 : text.charAt(i), true);
            }
        }

        void read(String text, int want) {
            units(text);
            due("read() of " + text, x().read(), want);
        }

        /** The lines are those of the text, by the bytes of THE TEXT. */
        void holds(String text) {
            StringBuilder all = new StringBuilder();
            for (int i = 0; i <= text.length(); i++) {
                int b = x().text(i);
                all.append(b == -1 ? '$' : b == 10 ? '|' : (char) b);
            }
            due("THE TEXT", all.toString(), text + "$");
            count(linesOf(text));
        }

        /** What is collected is this, which is then the last line. */
        void holdsCollected(String literals) {
            int line = x().learn();
            StringBuilder all = new StringBuilder();
            for (int i = 0, m = x().member(line, 0); m >= 0; i++, m = x().member(line, i)) {
                all.append(m % 2 == 0 ? " -" : " ").append(m / 2 + 1);
            }
            due("what was collected", all.toString(), literals);
        }

        void fillWithGivens(int upTo) {
            for (int i = 0; i < upTo; i++) {
                given(i);
            }
        }
    }

    private static int linesOf(String text) {
        return (int) text.chars().filter(c -> c == '|').count();
    }

    private static Counted of(int things, String text) {
        Counted x = new Counted(things);
        x.read(text, linesOf(text));
        return x;
    }

    private static void dueCheck(int things, String text, int want) {
        of(things, text).check(want);
    }

    private static void dueShorten(int things, String text, String want) {
        Counted x = of(things, text);
        x.shorten(linesOf(want));
        x.holds(want);
    }

    /** A text is refused at a place, the lines stay as they were and the text is gone. */
    private static void dueRefused(int things, String text, int place) {
        Counted x = of(things, "g 1|l 1 -1|");
        x.read(text, -1 - place);
        x.holds("g 1|l 1 -1|");
        x.read("", 0);
    }

    private static void dueRead(int things, String text) {
        Counted x = of(things, "g 1|l 1 -1|");
        x.read(text, linesOf(text));
        x.holds(text);
    }

    /** A call that is refused does nothing to these lines. */
    private static void dueNothing(int things, String text, Consumer<Counted> call) {
        Counted x = of(things, text);
        call.accept(x);
        x.holds(text);
    }

    // ---- Terms

    private static void listTerms() {
        edge("T", "THINGS 0 .. things - 1", Edges::thingsFromFirstToLast);
        edge("T", "LITERALS, each at most once", () -> {
            Counted x = of(2, "g 1|");
            x.literal(0, 0, true, false);
            x.literal(0, 0, false, true);
            x.literal(0, 0, false, false);
            x.holds("g 1 -1|");
        });
        edge("T", "in the order in which they came", () -> {
            Counted x = new Counted(4);
            x.given(0);
            x.literal(0, 3, false, true);
            x.literal(0, 0, true, true);
            x.literal(0, 2, true, true);
            x.literal(0, 0, false, true);
            x.holds("g -4 1 3 -1|");
        });
        edge("T", "numbered from 0 on; there are at most 80", Edges::linesOfAllKindsUpTo80);
        edge("T", "when both literals of a thing do: a CLASH", () -> {
            dueCheck(1, "l 1 -1|", 0);
            dueCheck(64, "l -64 5 64|", 0);
            dueCheck(2, "l 1 -2|", 1);
        });
        edge("T", "no clause has only literals whose opposite holds (that is a CLASH)", () -> {
            dueCheck(3, "g 1 2|l 2 1|", 0);
            dueCheck(3, "g 1 2|l 2 3 1|", 0);
            dueCheck(3, "g 1 2|l 2 -1|", 2);
        });
        edge("T", "a clause without literals is a CLASH", () -> {
            dueCheck(2, "g|l|", 0);
            dueCheck(2, "g|l 1|j 2|", 0);
            dueShorten(2, "l|g 1|l|", "l|g 1|l|");
            dueShorten(2, "j|g 1|l|", "j|g 1|l|");
        });
        edge("T", "just one literal that neither holds nor does its opposite", () -> {
            dueCheck(3, "g 1 2 3|g 1 -2|l 1 3|", 0);
            dueCheck(3, "g 1 2 3|g 1 -2 -3|l 1|", 3);
            dueCheck(3, "g 1 2|g -1 2|g 1 -2|g -1 -2|l|", 5);
            dueCheck(3, "g 1 -1|l 1|", 2);
        });
        edge("T", "and of all others the opposite holds", () -> {
            dueCheck(3, "g 1|g 1 2|g -2|l 3|", 4);
            dueCheck(3, "g -1|g 1 2|g -2|l 3|", 0);
            dueCheck(3, "g 1 -1 2|g -2|l 3|", 3);
        });
        edge("T", "as long as ..: the longest chain of units there can be", Edges::longestChain);
        listTermsOfRight();
    }

    private static void listTermsOfRight() {
        edge("T", "GIVEN: always", () -> dueCheck(2, "g|g 1|g -1|g 1 -1|g|", 0));
        edge("T", "LEARNED or JOINED without literals", () -> {
            dueCheck(2, "l|", 1);
            dueCheck(2, "j|", 1);
            dueCheck(2, "g 1|l|", 2);
            dueCheck(2, "g 1|j|", 2);
            dueCheck(2, "g 1|g -1|l|j|", 0);
        });
        edge("T", "from the clauses of the lines ahead: neither its own nor those behind", () -> {
            dueCheck(2, "l 1|", 1);
            dueCheck(2, "l 1|g 1|", 1);
            dueCheck(2, "g 1|l 1|", 0);
            dueCheck(2, "g 2|j 1|g 1|", 2);
        });
        edge("T", "from the clauses: an ANSWER ahead is none", () -> {
            dueCheck(1, "a 1|l 1|", 2);
            dueCheck(1, "a|l 1|", 1);
            dueShorten(1, "a|a 1|l|", "l|");
        });
        edge("T", "from the clauses of the lines ahead: also of those that are not RIGHT", () -> {
            dueShorten(2, "l 1|l 1|", "l 1|l 1|");
            dueShorten(2, "j 1|j 1|", "j 1|j 1|");
        });
        edge("T", "JOINED: by units alone, not since it was joined", () -> {
            Counted x = of(2, "g 1 -1 2|g 1|");
            x.split(0, 2);
            x.check(3);
        });
        edge("T", "ANSWER: when it has one literal of each thing", () -> {
            dueCheck(1, "a|", 1);
            dueCheck(1, "a 1|", 0);
            dueCheck(2, "a -2|", 1);
            dueCheck(2, "a -2 1|", 0);
            answerOf64Things();
        });
        edge("T", "each GIVEN line ahead of it has one of its literals", () -> {
            dueCheck(2, "g 1 2|g -1 -2|a 1 -2|", 0);
            dueCheck(2, "g -1 2|g 1|a 1 -2|", 3);
            dueCheck(2, "g 1|g -1 2|a 1 -2|", 3);
            dueCheck(2, "g 1 -1|a 1 -2|", 0);
        });
        edge("T", "a GIVEN line ahead without literals has none of them", () -> {
            dueCheck(1, "g|a 1|", 2);
            dueCheck(1, "g 1|g|a 1|", 3);
        });
        edge("T", "a GIVEN line behind an ANSWER is not ahead of it", () -> {
            dueCheck(1, "a 1|g -1|", 0);
            dueCheck(1, "a 1|g|", 0);
        });
        edge("T", "THE TEXT of a line without literals", () -> {
            Counted x = new Counted(2);
            x.given(0);
            x.learn(1);
            x.answer(2);
            x.holds("g|l|a|");
        });
        edge("T", "the thing's number and one in decimal: one digit and two", () -> {
            Counted x = new Counted(64);
            int[] things = {0, 8, 9, 10, 18, 19, 62, 63};
            for (int thing : things) {
                x.collect(thing, true, true);
                x.collect(thing, false, true);
            }
            x.learn(0);
            x.holds("l 1 -1 9 -9 10 -10 11 -11 19 -19 20 -20 63 -63 64 -64|");
        });
    }

    private static void thingsFromFirstToLast() {
        for (int things : new int[] {1, 2, 63, 64}) {
            Counted x = new Counted(things);
            x.given(0);
            for (int no : new int[] {-1, things, MIN, MAX}) {
                x.literal(0, no, true, false);
                x.collect(no, true, false);
                x.turn(0, no, -1);
            }
            x.literal(0, things - 1, true, true);
            x.collect(things - 1, true, true);
            x.literal(0, 0, true, things > 1);
            x.collect(0, true, things > 1);
            x.turn(0, things - 1, things > 1 ? 4 : 0);
        }
    }

    private static void linesOfAllKindsUpTo80() {
        Counted x = new Counted(1);
        for (int i = 0; i < 80; i += 5) {
            x.given(i);
            x.literal(i, 0, true, true);
            x.collect(0, false, true);
            x.learn(i + 1);
            x.split(0, i + 2);
            x.answer(i + 3);
            x.given(i + 4);
        }
        x.given(-1);
        x.learn(-1);
        x.answer(-1);
        x.count(80);
        x.kind(78, 3);
        x.kind(79, 0);
        x.kind(80, -1);
    }

    /**
     * The first thing leads to the second and so on, the last but one to both literals of the last:
     * the clauses in the order in which each look at them all settles just one thing.
     */
    private static void longestChain() {
        for (boolean started : new boolean[] {true, false}) {
            Counted x = new Counted(64);
            dueCase(x, 0, 62, 63, false);
            for (int i = 1; i < 64; i++) {
                dueCase(x, i, 63 - i, 64 - i, true);
            }
            x.given(64);
            x.literal(64, 0, started, true);
            x.learn(65);
            x.check(started ? 0 : 66);
        }
    }

    /** A GIVEN line: the first thing leads to a literal of the other one. */
    private static void dueCase(Counted x, int line, int first, int other, boolean truth) {
        x.given(line);
        x.literal(line, first, false, true);
        x.literal(line, other, truth, true);
    }

    private static void answerOf64Things() {
        Counted x = new Counted(64);
        x.answer(0);
        for (int i = 0; i < 64; i++) {
            x.check(1);
            x.value(0, 63 - i, i % 2 == 0, true);
        }
        x.check(0);
    }

    // ---- Promises 1 to 5

    private static void listPromises1To5() {
        edge("1", "No lines; nothing collected; no text to be read", () -> {
            Counted x = new Counted(3);
            x.holds("");
            x.read("", 0);
            x.holds("");
            x.holdsCollected("");
        });
        edge("1", "what is below counts as 1", () -> {
            for (int things : new int[] {0, -1, -64, MIN, 1}) {
                dueHeldTo(things, 1);
            }
        });
        edge("1", "what is above as 64", () -> {
            for (int things : new int[] {65, 100, 128, MAX, 64}) {
                dueHeldTo(things, 64);
            }
        });
        edge("1", "things is held to 1 .. 64: what is within stays", () -> {
            for (int things : new int[] {2, 9, 10, 63}) {
                dueHeldTo(things, things);
            }
        });
        edge("2", "-1 when there are 80 lines", () -> {
            Counted x = new Counted(1);
            x.fillWithGivens(80);
            x.given(-1);
            x.given(-1);
            x.holds("g|".repeat(80));
        });
        edge("2", "a GIVEN line without literals, also where a line with some was", () -> {
            Counted x = of(2, "a 1 2|g 1|");
            x.shorten(1);
            x.given(1);
            x.holds("g 1|g|");
            x.read("g 1|g 2|", 2);
            x.read("g 1 2|g 1|", 2);
            x.read("", 0);
            x.given(0);
            x.holds("g|");
        });
        listPromise3();
        listPromises4And5();
    }

    /** By every call in which a thing or its number has to be there. */
    private static void dueHeldTo(int things, int held) {
        Counted x = new Counted(things);
        x.collect(held, true, false);
        x.collect(held - 1, true, true);
        x.turn(held - 1, held, -1);
        x.turn(held - 1, held - 1, 0);
        x.read("g " + (held + 1) + "|", -3);
        x.read("g " + held + "|g -" + held + "|", 2);
        x.literal(1, held, true, false);
        x.split(held, -1);
        x.split(held - 1, 2);
        x.answer(3);
        for (int i = 0; i < held; i++) {
            x.value(3, i, true, true);
        }
        x.value(3, held, true, false);
        // Ahead of this answer are no GIVEN lines, so that its things alone make it RIGHT.
        Counted y = new Counted(things);
        y.answer(0);
        for (int i = 0; i < held; i++) {
            y.check(1);
            y.value(0, i, false, true);
        }
        y.check(0);
    }

    private static void listPromise3() {
        edge("3", "when it is none (no GIVEN line): of another kind", () -> {
            dueNothing(2, "l 1|", x -> x.literal(0, 1, true, false));
            dueNothing(2, "j 1|", x -> x.literal(0, 1, true, false));
            dueNothing(2, "a 1|", x -> x.literal(0, 1, true, false));
        });
        edge("3", "when it is none: there is no such line", () -> {
            dueNothing(2, "", x -> x.literal(0, 1, true, false));
            dueNothing(2, "", x -> x.literal(-1, 1, true, false));
            for (int no : new int[] {-1, 1, 2, 80, -80, MIN, MAX}) {
                dueNothing(2, "g 1|", x -> x.literal(no, 1, true, false));
            }
        });
        edge("3", "it is not the last line", () -> {
            dueNothing(2, "g 1|g|", x -> x.literal(0, 1, true, false));
            dueNothing(2, "g|g 1|l 1|", x -> x.literal(1, 1, true, false));
            dueNothing(2, "g|a|", x -> x.literal(0, 1, true, false));
        });
        edge("3", "there is no such thing", () -> {
            for (int no : new int[] {-1, 2, 64, MIN, MAX}) {
                dueNothing(2, "g 1|", x -> x.literal(0, no, true, false));
                dueNothing(2, "g 1|", x -> x.literal(0, no, false, false));
            }
        });
        edge("3", "it has the literal", () -> {
            dueNothing(2, "g 1 -2|", x -> x.literal(0, 0, true, false));
            dueNothing(2, "g 1 -2|", x -> x.literal(0, 1, false, false));
        });
        edge("3", "a literal whose opposite it has comes", () -> {
            Counted x = of(2, "g 1 -2|");
            x.literal(0, 0, false, true);
            x.literal(0, 1, true, true);
            x.holds("g 1 -2 -1 2|");
        });
        edge("3", "a line with all literals of all things, and at 80 lines", () -> {
            Counted x = new Counted(64);
            x.fillWithGivens(80);
            for (int i = 0; i < 128; i++) {
                x.literal(79, i / 2, i % 2 == 1, true);
            }
            x.literal(79, 63, true, false);
            x.literal(79, 0, false, false);
            x.member(79, 0, 0);
            x.member(79, 127, 127);
            x.member(79, 128, -1);
        });
    }

    private static void listPromises4And5() {
        edge("4", "there is no such thing", () -> {
            Counted x = new Counted(3);
            for (int no : new int[] {-1, 3, 64, MIN, MAX}) {
                x.collect(no, true, false);
                x.collect(no, false, false);
            }
            x.holdsCollected("");
        });
        edge("4", "it is collected already", () -> {
            Counted x = new Counted(3);
            x.collect(2, false, true);
            x.collect(0, true, true);
            x.collect(2, false, false);
            x.collect(0, true, false);
            x.holdsCollected(" -3 1");
        });
        edge("4", "a literal whose opposite is collected, up to all of all things", () -> {
            Counted x = new Counted(64);
            for (int i = 0; i < 128; i++) {
                x.collect(i / 2, i % 2 == 1, true);
            }
            x.collect(63, true, false);
            x.learn(0);
            x.member(0, 127, 127);
            x.member(0, 128, -1);
        });
        edge("5", "in their order", () -> {
            Counted x = new Counted(3);
            x.collect(2, true, true);
            x.collect(0, false, true);
            x.collect(1, true, true);
            x.collect(0, true, true);
            x.learn(0);
            x.holds("l 3 -1 2 1|");
        });
        edge("5", "(none is then)", () -> {
            Counted x = new Counted(3);
            x.collect(2, true, true);
            x.learn(0);
            x.learn(1);
            x.collect(2, true, true);
            x.learn(2);
            x.holds("l 3|l|l 3|");
        });
        edge("5", "when nothing was collected: a line without literals", () -> {
            Counted x = new Counted(3);
            x.learn(0);
            x.kind(0, 1);
            x.member(0, 0, -1);
        });
        edge("5", "with the literals that were collected: no others, where a line was", () -> {
            Counted x = of(3, "a 1 2|g 1|");
            x.shorten(1);
            x.collect(2, false, true);
            x.learn(1);
            x.holds("g 1|l -3|");
        });
        edge("5", "-1, doing nothing, when there are 80 lines", () -> {
            Counted x = new Counted(3);
            x.fillWithGivens(80);
            x.collect(2, true, true);
            x.collect(1, false, true);
            x.learn(-1);
            x.holds("g|".repeat(80));
            x.read("", 0);
            x.holdsCollected(" 3 -2");
        });
    }

    // ---- Promises 6 to 9

    private static void listPromises6To9() {
        edge("6", "-1, doing nothing, when there are 80 lines", () -> {
            String text = "g|".repeat(78) + "g 1|g -1|";
            dueNothing(1, text, x -> x.split(0, -1));
            Counted room = of(1, "g|".repeat(77) + "g 1|g -1|");
            room.split(0, 79);
            room.count(80);
        });
        edge("6", "fewer than two", () -> {
            dueNothing(1, "", x -> x.split(0, -1));
            dueNothing(1, "g 1|", x -> x.split(0, -1));
            dueNothing(1, "g 1 -1|", x -> x.split(0, -1));
        });
        edge("6", "no such thing", () -> {
            for (int no : new int[] {-1, 2, 64, MIN, MAX}) {
                dueNothing(2, "g 1 2|g -1 -2|", x -> x.split(no, -1));
            }
        });
        edge("6", "of the last two lines", () -> {
            dueNothing(2, "g 1|g -1|g 2|", x -> x.split(0, -1));
            dueNothing(2, "g 1|g 2|g -1|", x -> x.split(0, -1));
            Counted x = of(3, "g 1|g 2 3|g -2 1|");
            x.split(1, 3);
            x.holds("g 1|g 2 3|g -2 1|j 3 1|");
        });
        edge("6", "which have to be clauses", () -> {
            dueNothing(2, "a 1|g -1|", x -> x.split(0, -1));
            dueNothing(2, "g 1|a -1|", x -> x.split(0, -1));
            dueNothing(2, "a 1|a -1|", x -> x.split(0, -1));
            dueNothing(2, "g 1|g -1|a|", x -> x.split(0, -1));
        });
        edge("6", "clauses: GIVEN, LEARNED and JOINED", () -> {
            for (String kinds : new String[] {"gg", "gl", "gj", "lg", "ll", "lj", "jg", "jl", "jj"}) {
                String text = kinds.charAt(0) + " 1|" + kinds.charAt(1) + " -1|";
                Counted x = of(1, text);
                x.split(0, 2);
                x.holds(text + "j|");
            }
        });
        edge("6", "one has the thing as true, the other one as false", () -> {
            dueNothing(2, "g 1|g 1|", x -> x.split(0, -1));
            dueNothing(2, "g -1|g -1|", x -> x.split(0, -1));
            dueNothing(2, "g 1|g 2|", x -> x.split(0, -1));
            dueNothing(2, "g 2|g -1|", x -> x.split(0, -1));
            dueNothing(2, "g 1 -1|g 2|", x -> x.split(0, -1));
            dueNothing(2, "g 2|g 1 -1|", x -> x.split(0, -1));
            dueNothing(2, "g|g|", x -> x.split(0, -1));
            of(2, "g 1|g -1|").split(0, 2);
            of(2, "g -1|g 1|").split(0, 2);
        });
        edge("6", "all literals of the one ahead, then those of the other that it does not have", () -> {
            Counted x = of(5, "g -3 1 -2 4|g -4 5 -1 -2 -3|");
            x.split(0, 2);
            x.holds("g -3 1 -2 4|g -4 5 -1 -2 -3|j -3 -2 4 -4 5|");
        });
        edge("6", "without those of the thing: both, where a line has both", () -> {
            Counted x = of(2, "g 1 -1 2|g -1|");
            x.split(0, 2);
            x.holds("g 1 -1 2|g -1|j 2|");
            Counted y = of(2, "g 1|g 1 -2 -1|");
            y.split(0, 2);
            y.holds("g 1|g 1 -2 -1|j -2|");
        });
        edge("6", "two cases of which nothing else is left: a line without literals", () -> {
            Counted x = of(64, "a 3|g 64|g -64|");
            x.shorten(2);
            x.split(63, 2);
            x.holds("g 64|g -64|j|");
            x.split(63, -1);
        });
        edge("7", "-1 when there are 80 lines", () -> {
            Counted x = new Counted(1);
            for (int i = 0; i < 80; i++) {
                x.answer(i);
            }
            x.answer(-1);
            x.holds("a|".repeat(80));
        });
        edge("7", "an ANSWER line without literals, also where a line with some was", () -> {
            Counted x = of(2, "a 1 2|g 1|");
            x.shorten(1);
            x.answer(1);
            x.holds("g 1|a|");
            x.read("a 1|g 2|", 2);
            x.read("a 1 2|g 1|", 2);
            x.read("", 0);
            x.answer(0);
            x.holds("a|");
        });
        listPromise8();
        listPromise9();
    }

    private static void listPromise8() {
        edge("8", "when it is none (no ANSWER line): of another kind", () -> {
            dueNothing(2, "g 1|", x -> x.value(0, 1, true, false));
            dueNothing(2, "l 1|", x -> x.value(0, 1, true, false));
            dueNothing(2, "j 1|", x -> x.value(0, 1, true, false));
        });
        edge("8", "when it is none: there is no such line", () -> {
            dueNothing(2, "", x -> x.value(0, 1, true, false));
            dueNothing(2, "", x -> x.value(-1, 1, true, false));
            for (int no : new int[] {-1, 1, 2, 80, -80, MIN, MAX}) {
                dueNothing(2, "a 1|", x -> x.value(no, 1, true, false));
            }
        });
        edge("8", "it is not the last line", () -> {
            dueNothing(2, "a 1|a|", x -> x.value(0, 1, true, false));
            dueNothing(2, "a|a 1|g 1|", x -> x.value(1, 1, true, false));
        });
        edge("8", "there is no such thing", () -> {
            for (int no : new int[] {-1, 2, 64, MIN, MAX}) {
                dueNothing(2, "a 1|", x -> x.value(0, no, true, false));
                dueNothing(2, "a 1|", x -> x.value(0, no, false, false));
            }
        });
        edge("8", "it was told there (either way)", () -> {
            dueNothing(2, "a 1|", x -> x.value(0, 0, true, false));
            dueNothing(2, "a 1|", x -> x.value(0, 0, false, false));
            dueNothing(2, "a -1|", x -> x.value(0, 0, true, false));
            dueNothing(2, "a -1|", x -> x.value(0, 0, false, false));
        });
        edge("8", "told there: not in another ANSWER", () -> {
            Counted x = of(2, "a 1|a|");
            x.value(1, 0, false, true);
            x.holds("a 1|a -1|");
        });
    }

    private static void listPromise9() {
        edge("9", "0, also when there are no lines", () -> {
            new Counted(1).check(0);
            dueCheck(1, "g|", 0);
        });
        edge("9", "1 and the least line that is not RIGHT: of several", () -> {
            dueCheck(2, "g 1|l 1|l 2|l -2|a|", 3);
            dueCheck(2, "g 1|a|l 2|", 2);
            dueCheck(2, "g 1|j 2|a|", 2);
        });
        edge("9", "1 and the least line: the first one, and the 80th", () -> {
            dueCheck(1, "l|g|", 1);
            dueCheck(1, "g 1|".repeat(79) + "l|", 80);
            dueCheck(1, "g 1|".repeat(79) + "l 1|", 0);
        });
    }

    // ---- Promises 10 to 12

    private static void listPromises10To12() {
        edge("10", "from the last line but one: the last line stays", () -> {
            dueShorten(2, "l 1|", "l 1|");
            dueShorten(2, "a|", "a|");
            dueShorten(2, "g 1|l 1|", "g 1|l 1|");
            dueShorten(2, "g 1|l 2|", "g 1|l 2|");
            dueShorten(2, "g|a|", "g|a|");
        });
        edge("10", "back to the first one", () -> {
            dueShorten(2, "l 1|g 1|", "g 1|");
            dueShorten(2, "a|g 1|", "g 1|");
            dueShorten(2, "j 1 -1|l 2|", "l 2|");
        });
        edge("10", "no lines", () -> dueShorten(2, "", ""));
        edge("10", "80 lines", () -> {
            dueShorten(1, "g|".repeat(80), "g|".repeat(80));
            dueShorten(1, "a|".repeat(80), "a|");
            dueShorten(1, "l|".repeat(80), "l|l|");
        });
        edge("10", "a line that is not GIVEN: a GIVEN one stays", () -> {
            dueShorten(2, "g 1|g 1|g|g 2|", "g 1|g 1|g|g 2|");
            dueShorten(2, "g 1|g 1|l 2|", "g 1|g 1|l 2|");
        });
        edge("10", "from the last back: of two that would do the one ahead stays", () -> {
            String givens = "g 1 2|g 1 -2|g -1 2|g -1 -2|";
            dueShorten(2, givens + "l 1|l -1|l|", givens + "l 1|l|");
            dueShorten(2, givens + "l 1|l 1|l 1|l|", givens + "l 1|l|");
            dueShorten(2, givens + "l 2|l 1|l 2|g 2|l|", givens + "g 2|l|");
        });
        edge("10", "if all lines behind it that are RIGHT are so: each of them, not the next alone", () -> {
            String givens = "g 1 2|g 1 -2|g -1 3|g -1 -3|";
            dueShorten(3, givens + "l 1|a|g 1 3|l|", givens + "l 1|g 1 3|l|");
        });
        edge("10", "that are RIGHT: one that is not RIGHT keeps nothing", () -> {
            dueShorten(3, "g 1 2|g 1 -2|l 1|l 3|", "g 1 2|g 1 -2|l 3|");
            dueShorten(3, "l 1|l 2|", "l 2|");
        });
        edge("10", "a line that is not RIGHT goes, and stays where one behind needs it", () -> {
            dueShorten(3, "l 1|l 2|g|", "g|");
            dueShorten(3, "l 1|l 2|l 1|", "l 1|l 1|");
        });
        edge("10", "a line that only one needed that goes, goes too", () -> {
            String givens = "g 1 2|g 1 -2|g -1 3|g -1 -3|";
            dueShorten(4, givens + "l 1|l 4|g 4|", givens + "g 4|");
            dueShorten(4, givens + "l 1|l|g 4|", givens + "g 4|");
        });
        edge("10", "an ANSWER keeps no line, and goes where it is not the last one", () -> {
            dueShorten(1, "g 1|l 1|a 1|", "g 1|a 1|");
            dueShorten(1, "g 1|a 1|a -1|g 1|", "g 1|g 1|");
        });
        listPromise10Literals();
        listPromises11And12();
    }

    private static void listPromise10Literals() {
        edge("10", "the literals of LEARNED and JOINED lines: not of GIVEN and ANSWER", () -> {
            dueShorten(2, "g 1|g 1 2|", "g 1|g 1 2|");
            dueShorten(2, "g 1|a 1 2|", "g 1|a 1 2|");
            dueShorten(2, "g 1|l 1 2|", "g 1|l 1|");
            dueShorten(2, "g 1|j 1 2|", "g 1|j 1|");
        });
        edge("10", "from the first line on: the first line's too, and the last line's", () -> {
            dueShorten(2, "l 1 2 -1|", "l 1 -1|");
            dueShorten(3, "g|l 1 2 3|", "g|l|");
        });
        edge("10", "from the first line on: what got shorter ahead counts", () -> {
            // 3 holds by units only when the line ahead of it is 1 alone.
            String givens = "g 1 2|g 1 -2|g -1 3 4|g -1 3 -4|g 12 -6|g 12 -5|g -3 9|g -9 10|"
                    + "g -10 -1 11|g -10 -1 -11|";
            dueShorten(12, givens + "l 6 1|l 3 5|l 12|", givens + "l 1|l 3|l|");
        });
        edge("10", "each line's from its first one on", () -> {
            dueShorten(2, "g 1|g 2|l 1 2|", "g 1|g 2|l 2|");
            dueShorten(2, "g 1|g 2|l 2 1|", "g 1|g 2|l 1|");
            dueShorten(2, "l 1 -1 2 -2|", "l 2 -2|");
        });
        edge("10", "if its line is RIGHT: one that is not RIGHT keeps all", () -> {
            dueShorten(3, "g 1|l 2 3|", "g 1|l 2 3|");
            dueShorten(3, "g 1|j -1 3|", "g 1|j -1 3|");
            dueShorten(3, "l 1 2 3|", "l 1 2 3|");
        });
        edge("10", "and is so without it: until none is left", () -> {
            dueShorten(2, "g 1|g -1|l 1 2|", "g 1|g -1|l|");
            dueShorten(2, "g|j -1 2|", "g|j|");
            dueShorten(2, "g|l|", "g|l|");
        });
        edge("10", "a line with all literals of all things", () -> {
            Counted x = new Counted(64);
            for (int i = 0; i < 128; i++) {
                x.collect(i / 2, i % 2 == 1, true);
            }
            x.learn(0);
            x.shorten(1);
            x.holds("l -64 64|");
        });
        edge("10", "Numbers are given anew", () -> {
            Counted x = of(2, "a|g 1|l 2|a|l 1|");
            x.shorten(2);
            x.kind(0, 0);
            x.kind(1, 1);
            x.kind(2, -1);
            x.member(0, 0, 1);
            x.member(1, 0, 1);
            x.given(2);
            x.literal(2, 1, false, true);
            x.holds("g 1|l 1|g -2|");
        });
        edge("10", "How many lines are left: from 80 on there is room again", () -> {
            Counted x = of(1, "g 1|" + "a|".repeat(78) + "g|");
            x.given(-1);
            x.shorten(2);
            x.given(2);
            x.answer(3);
            x.holds("g 1|g|g|a|");
        });
        edge("10", "what is collected, and the text to be read, stay", () -> {
            Counted x = of(2, "a|g 1|");
            x.collect(1, false, true);
            x.units("g 2");
            x.shorten(1);
            x.read("|", 1);
            x.holdsCollected(" -2");
            x.holds("g 2|l -2|");
        });
    }

    private static void listPromises11And12() {
        edge("11", "a thing exchanged with itself: no literal is another", () -> {
            dueNothing(3, "g 1 -1|a 2 1|", x -> x.turn(0, 0, 0));
            dueNothing(3, "g 1 -1|a 2 1|", x -> x.turn(2, 2, 0));
        });
        edge("11", "-1 when there is no such thing: either of them", () -> {
            for (int no : new int[] {-1, 3, 64, MIN, MAX}) {
                dueNothing(3, "g 1 -3|", x -> x.turn(no, 0, -1));
                dueNothing(3, "g 1 -3|", x -> x.turn(2, no, -1));
                dueNothing(3, "g 1 -3|", x -> x.turn(no, no, -1));
            }
        });
        edge("11", "in all lines: of every kind, the first and the last", () -> {
            Counted x = of(4, "g 1 3|l -1|j 4 1|a -4 2 1|l|g 2|");
            x.turn(0, 3, 6);
            x.holds("g 4 3|l -4|j 1 4|a -1 2 4|l|g 2|");
            x.turn(3, 1, 6);
            x.holds("g 2 3|l -2|j 1 2|a -1 4 2|l|g 4|");
        });
        edge("11", "in all lines: of 80, and not in lines that went", () -> {
            of(2, "g 1|".repeat(80)).turn(1, 0, 80);
            Counted x = of(2, "a 1 2|a 2|g 1|");
            x.shorten(1);
            x.turn(0, 1, 1);
            x.read("a 2 1|", 1);
            x.read("", 0);
            x.turn(0, 1, 0);
        });
        edge("11", "and in what is collected", () -> {
            Counted x = new Counted(64);
            x.collect(63, false, true);
            x.collect(1, true, true);
            x.collect(0, true, true);
            x.turn(63, 0, 2);
            x.collect(0, false, false);
            x.collect(63, true, false);
            x.holdsCollected(" -1 2 64");
        });
        edge("11", "how many literals are others: none, where neither is there", () -> {
            new Counted(2).turn(0, 1, 0);
            dueNothing(3, "g 1|a -1|", x -> x.turn(1, 2, 0));
            of(3, "g 1|a -1|").turn(0, 2, 2);
        });
        edge("11", "exchanged: what a line has after it, it has", () -> {
            Counted x = of(2, "g 1|");
            x.turn(0, 1, 1);
            x.literal(0, 1, true, false);
            x.literal(0, 0, true, true);
            x.holds("g 2 1|");
            Counted y = of(2, "a 1|");
            y.turn(0, 1, 1);
            y.value(0, 1, false, false);
            y.value(0, 0, false, true);
        });
        edge("11", "exchanged: steps by units are by the new things", () -> {
            Counted x = of(3, "g 1|g -1 2|");
            x.turn(0, 2, 2);
            x.collect(2, true, true);
            x.learn(2);
            x.collect(1, true, true);
            x.learn(3);
            x.check(0);
            x.collect(0, true, true);
            x.learn(4);
            x.check(5);
            x.holds("g 3|g -3 2|l 3|l 2|l 1|");
        });
        edge("12", "how many lines: none, one, 80", () -> {
            Counted x = new Counted(1);
            x.count(0);
            x.given(0);
            x.count(1);
            x.read("g|".repeat(80), 80);
            x.count(80);
        });
    }

    // ---- Promises 13 to 16

    private static void listPromises13To16() {
        edge("13", "-1 when there is none", () -> {
            new Counted(1).kind(0, -1);
            Counted x = of(1, "a|l|");
            for (int no : new int[] {-1, 2, 3, 79, 80, 81, MIN, MAX}) {
                x.kind(no, -1);
            }
            x.kind(0, 3);
            x.kind(1, 1);
            x.read("g|", 1);
            x.kind(1, -1);
        });
        edge("13", "the first and the last of 80", () -> {
            Counted x = of(1, "j|" + "g|".repeat(78) + "a|");
            x.kind(0, 2);
            x.kind(79, 3);
            x.kind(80, -1);
        });
        edge("14", "-1 when there is none: no such line", () -> {
            new Counted(1).member(0, 0, -1);
            Counted x = of(2, "a 1|g 1|a 2|a -2|");
            x.shorten(2);
            for (int no : new int[] {-1, 2, 3, 4, 79, 80, 81, MIN, MAX}) {
                x.member(no, 0, -1);
            }
            x.member(0, 0, 1);
            x.member(1, 0, 2);
        });
        edge("14", "-1 when there is none: no such literal", () -> {
            Counted x = of(2, "g 1 2|g -2|l|");
            for (int no : new int[] {-1, 2, 3, 127, 128, MIN, MAX}) {
                x.member(0, no, -1);
            }
            x.member(1, 1, -1);
            x.member(2, 0, -1);
            x.member(0, 0, 1);
            x.member(0, 1, 3);
            x.member(1, 0, 2);
        });
        edge("14", "2 times its thing, and 1 for true: the least and the most", () -> {
            Counted x = of(64, "g -1 64 1 -64|");
            x.member(0, 0, 0);
            x.member(0, 1, 127);
            x.member(0, 2, 1);
            x.member(0, 3, 126);
        });
        edge("15", "-1 when there is none: below 0 and behind the last", () -> {
            Counted x = of(12, "g 1|l -12|");
            for (int no : new int[] {-1, -2, 10, 11, 4000, MIN, MAX}) {
                x.text(no, -1);
            }
            x.text(0, 'g');
            x.text(9, 10);
        });
        edge("15", "-1 when there is none: no lines", () -> {
            Counted x = new Counted(1);
            x.text(0, -1);
            x.collect(0, true, true);
            x.text(0, -1);
            x.units("g|");
            x.text(0, -1);
        });
        edge("15", "behind the last: where lines went, and where they were more", () -> {
            Counted x = of(2, "a 1|g 2|");
            x.shorten(1);
            x.holds("g 2|");
            x.read("g|", 1);
            x.holds("g|");
        });
        edge("16", "false, doing nothing, when it is not 0 .. 255", () -> {
            Counted x = new Counted(1);
            x.unit('g', true);
            for (int u : new int[] {-1, 256, 266, -246, 256 + 'g', -256, MIN, MAX}) {
                x.unit(u, false);
            }
            x.read("|", 1);
            x.holds("g|");
        });
        edge("16", "0 .. 255: each of them is taken", () -> {
            Counted x = new Counted(1);
            for (int u = 0; u <= 255; u++) {
                x.unit(u, true);
            }
            x.read("", -1);
            for (int u : new int[] {0, 255}) {
                x.units("g|");
                x.unit(u, true);
                x.read("", -3);
            }
        });
        edge("16", "or there are 4,000", Edges::unitsUpTo4000);
    }

    /** Only beyond the 512 calls can there be 4,000; the sentence stands all the same. */
    private static void unitsUpTo4000() {
        ProofLines x = new ProofLines(1);
        for (int i = 0; i < 4000; i++) {
            due("unit " + i, x.unit(i == 0 ? 'g' : i == 1 ? ' ' : '1'), true);
        }
        due("unit 4000", x.unit(10), false);
        due("unit 4001", x.unit(10), false);
        due("read of 4,000", x.read(), -3);
        due("unit after it", x.unit('g'), true);
    }

    // ---- Promise 17

    private static void listPromise17() {
        edge("17", "no text at all: no lines", () -> {
            new Counted(1).read("", 0);
            dueRead(1, "");
        });
        edge("17", "how many lines: one without literals, and 80", () -> {
            dueRead(1, "g|");
            dueRead(1, "l|");
            dueRead(1, "j|");
            dueRead(1, "a|");
            dueRead(1, "a|".repeat(80));
        });
        edge("17", "the text is gone then", () -> {
            Counted x = of(1, "g|l|");
            x.read("a|", 1);
            x.holds("a|");
            x.read("", 0);
            x.holds("");
        });
        edge("17", "also when it is refused", () -> {
            Counted x = new Counted(1);
            x.read("g|l 1", -6);
            x.read("a 1|", 1);
            x.holds("a 1|");
            x.read("g|", 1);
            x.read("?", -1);
            x.read("", 0);
        });
        edge("17", "the lines staying as they were", () -> {
            Counted x = of(3, "g 1 -2|l 3|");
            x.collect(2, false, true);
            x.read("a 3 1|j 2|g -1|l 1 2 3|x", -24);
            x.holds("g 1 -2|l 3|");
            x.given(2);
            x.literal(2, 0, true, true);
            x.check(2);
            x.holdsCollected(" -3");
        });
        edge("17", "what is collected stays", () -> {
            Counted x = new Counted(3);
            x.collect(1, false, true);
            x.read("g 1|", 1);
            x.holdsCollected(" -2");
        });
        edge("17", "a text read leaves nothing of one that was read or refused before", () -> {
            Counted x = of(3, "a 1 2 3|a 3 2|a 1|");
            x.read("l 1 2 3|l 1 2|g 3|j 2 x", -23);
            x.read("g|g 2|", 2);
            x.holds("g|g 2|");
            x.given(2);
            x.holds("g|g 2|g|");
        });
        listPromise17Ends();
        listPromise17Numbers();
        listPromise17Twice();
    }

    private static void listPromise17Ends() {
        edge("17", "behind the last byte: where it ends within a line", () -> {
            dueRefused(12, "g", 1);
            dueRefused(12, "a ", 2);
            dueRefused(12, "g -", 3);
            dueRefused(12, "g 1", 3);
            dueRefused(12, "j 12", 4);
            dueRefused(12, "g -1", 4);
            dueRefused(12, "g 1|l", 5);
            dueRefused(12, "g 1|l -12 ", 10);
        });
        edge("17", "the first place at which no text of lines goes on: behind a letter", () -> {
            for (String next : new String[] {"g", "1", "-", "0", "\t", "\r", "\0", "\u00ff"}) {
                dueRefused(4, "g" + next + "|", 1);
                dueRefused(4, "g|a" + next + "|", 3);
            }
        });
        edge("17", "the first place at which no text of lines goes on: behind a blank", () -> {
            for (String next : new String[] {"|", " ", "g", "+", "/", ":", "\0", "\u00ff"}) {
                dueRefused(4, "g " + next + "1|", 2);
                dueRefused(4, "g 1 " + next + "2|", 4);
            }
        });
        edge("17", "the first place at which no text of lines goes on: behind a -", () -> {
            for (String next : new String[] {"|", " ", "-", "g", "+", "/", ":"}) {
                dueRefused(4, "g -" + next + "1|", 3);
            }
        });
        edge("17", "the first place at which no text of lines goes on: behind a number", () -> {
            for (String next : new String[] {"-", "g", "/", ":", "\r", "\0", "\u00ff"}) {
                dueRefused(4, "g 1" + next + "|", 3);
                dueRefused(12, "g -12" + next + "|", 5);
            }
        });
        edge("17", "the first place: of two", () -> {
            dueRefused(4, "g 1|x|y|", 4);
            dueRefused(4, "g 0|x|", 2);
            dueRefused(4, "g 1 1 9|", 4);
            dueRefused(4, "g 9 1 1|", 2);
        });
        edge("17", "of a letter that may not be the place is its first byte", () -> {
            for (String no : new String[] {"x", "G", "L", "J", "A", "f", "h", "k", "m", "i", "b", "|",
                " ", "-", "1", "\0", "\u00ff", "`"}) {
                dueRefused(4, no + "|", 0);
                dueRefused(4, "g 1|" + no + " 1|", 4);
            }
        });
        edge("17", "there are at most 80 lines: the 81st line's first byte", () -> {
            Counted x = of(1, "g|l|");
            x.read("g|".repeat(80) + "j|", -161);
            x.holds("g|l|");
            x.read("g|".repeat(80) + "a", -161);
            x.holds("g|l|");
        });
        edge("17", "there are at most 80 lines: the 80th goes, where those before were 80 too", () -> {
            Counted x = of(1, "g|".repeat(80));
            x.read("a|".repeat(80), 80);
            x.kind(0, 3);
            x.kind(79, 3);
        });
    }

    private static void listPromise17Numbers() {
        edge("17", "numbers are 1 to things: the first and the last", () -> {
            dueRead(1, "g 1 -1|");
            dueRead(9, "g 1 9 -9 -1|");
            dueRead(10, "g 10 -10 9 1|");
            dueRead(64, "g 64 -64|a 64 1|");
        });
        edge("17", "numbers are 1 to things: a number 0", () -> {
            dueRefused(4, "g 0|", 2);
            dueRefused(4, "g -0|", 3);
            dueRefused(4, "g 1 0|", 4);
            dueRefused(4, "a 0 1|", 2);
        });
        edge("17", "without 0 ahead", () -> {
            dueRefused(4, "g 01|", 2);
            dueRefused(4, "g -01|", 3);
            dueRefused(4, "g 001|", 2);
            dueRefused(4, "g 00|", 2);
            dueRefused(64, "g 1 064|", 4);
            dueRefused(64, "g 1 00000000000064|", 4);
        });
        edge("17", "numbers are 1 to things: one above things", () -> {
            dueRefused(1, "g 2|", 2);
            dueRefused(4, "g 5|", 2);
            dueRefused(4, "g -5|", 3);
            dueRefused(4, "g 10|", 2);
            dueRefused(9, "g 10|", 2);
            dueRefused(10, "g 11|", 2);
            dueRefused(64, "g 1 -65|", 5);
            dueRefused(64, "g 100|", 2);
            dueRefused(64, "g 641|", 2);
        });
        edge("17", "numbers are 1 to things: one that a wrap-around would make small", () -> {
            dueRefused(64, "g 257|", 2);
            dueRefused(64, "g 65537|", 2);
            dueRefused(64, "g 2147483648|", 2);
            dueRefused(64, "g 4294967297|", 2);
            dueRefused(64, "g 42949672970|", 2);
            dueRefused(64, "g -18446744073709551617|", 3);
            dueRefused(64, "g 184467440737095516161|", 2);
            dueRefused(64, "g 1" + "0".repeat(300) + "|", 2);
        });
        edge("17", "a number ends where no digit is, and is looked at as it stands then", () -> {
            dueRefused(4, "g 5x|", 2);
            dueRefused(4, "g 0x|", 2);
            dueRefused(4, "g 1 1x|", 4);
            dueRefused(12, "g 13-|", 2);
            dueRead(12, "g 1 12|");
            dueRefused(12, "g 1 121|", 4);
        });
        edge("17", "a number ends also where the text ends, and is looked at as it stands then", () -> {
            dueRefused(4, "g 5", 2);
            dueRefused(4, "g 0", 2);
            dueRefused(4, "g -01", 3);
            dueRefused(4, "g 1 1", 4);
            dueRefused(12, "g 1 1", 4);
            dueRefused(12, "g 1 12", 6);
            dueRefused(4, "a 1 -1", 5);
        });
    }

    private static void listPromise17Twice() {
        edge("17", "a line has no literal twice", () -> {
            dueRefused(4, "g 1 1|", 4);
            dueRefused(4, "g -1 -1|", 6);
            dueRefused(4, "l 1 2 3 1|", 8);
            dueRefused(4, "j 4 -4 -4|", 8);
            dueRefused(64, "g 64 1 64|", 7);
        });
        edge("17", "no literal twice: in two lines, and as its opposite, it goes", () -> {
            dueRead(4, "g 1|g 1|");
            dueRead(4, "g 1 -1|l -2 2|j 3 -3|");
        });
        edge("17", "(an ANSWER no thing)", () -> {
            dueRefused(4, "a 1 1|", 4);
            dueRefused(4, "a 1 -1|", 5);
            dueRefused(4, "a -1 1|", 5);
            dueRefused(4, "a -1 2 -1|", 8);
            dueRefused(64, "a 64 1 -64|", 8);
            dueRefused(1, "g 1 -1|a 1 -1|", 12);
        });
        edge("17", "an ANSWER no thing: in two ANSWERs it goes", () -> {
            dueRead(4, "a 1|a -1|a 1 2|");
            dueRead(4, "a 1 -2|g 1 -1|");
        });
        edge("17", "a line with all literals of all things", () -> {
            StringBuilder text = new StringBuilder("l");
            for (int i = 1; i <= 64; i++) {
                text.append(' ').append(i).append(" -").append(i);
            }
            Counted x = new Counted(64);
            x.read(text + "|", 1);
            x.member(0, 127, 126);
            x.member(0, 128, -1);
            x.text(text.length(), 10);
            x.text(text.length() + 1, -1);
            Counted y = new Counted(64);
            y.read(text + " 1|", -1 - text.length() - 1);
        });
    }
}
