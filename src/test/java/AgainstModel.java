import java.util.ArrayList;
import java.util.List;

/**
 * Runs of calls by a counted-on number, on ProofLines and on a model that is written as the document
 * says it, without thought of its cost; every answer, and the text at the end, have to be the same.
 */
public final class AgainstModel {
    private static final int RUNS = 6000;

    private static long seed = 1;
    private static long answers = 0;
    private static int wrong = 0;

    public static void main(String[] args) {
        for (int run = 0; run < RUNS && wrong < 20; run++) {
            if (run % 3 == 2) {
                runOfTexts(run);
            } else {
                runOfCalls(run, run % 3 == 1);
            }
        }
        System.out.println(answers + " answers looked at, " + wrong + " wrong");
        if (wrong != 0) {
            System.exit(1);
        }
    }

    private static int any(int below) {
        seed = seed * 6364136223846793005L + 1442695040888963407L;
        return (int) ((seed >>> 33) % below);
    }

    private static void same(int run, String call, int got, int want) {
        answers++;
        if (got != want) {
            wrong++;
            System.out.println("run " + run + ": " + call + " answered " + got + ", due is " + want);
        }
    }

    private static int one(boolean b) {
        return b ? 1 : 0;
    }

    /** A thing, now and then one that is not there. */
    private static int anyThing(int things) {
        return any(20) == 0 ? any(things + 4) - 2 : any(things);
    }

    private static int anyLine(int lines) {
        return any(8) == 0 ? any(lines + 3) - 1 : lines - 1;
    }

    private static void runOfCalls(int run, boolean full) {
        int things = full ? 1 + any(70) : 1 + any(6);
        ProofLines x = new ProofLines(things);
        Model m = new Model(things);
        for (int call = 0; call < 300; call++) {
            oneCall(run, x, m, full ? 80 : 24);
        }
        for (int i = 0; i < 190; i++) {
            same(run, "text", x.text(i), m.text(i));
        }
    }

    private static void oneCall(int run, ProofLines x, Model m, int soon) {
        int t = anyThing(m.things);
        int line = anyLine(m.lines.size());
        boolean b = any(2) == 0;
        int what = any(64);
        if (what < 8) {
            same(run, "given", x.given(), m.open(0));
        } else if (what < 28) {
            same(run, "literal", one(x.literal(line, t, b)), one(m.literal(line, t, b)));
        } else if (what < 38) {
            same(run, "collect", one(x.collect(t, b)), one(m.collect(t, b)));
        } else if (what < 44) {
            same(run, "learn", x.learn(), m.learn());
        } else if (what < 49) {
            same(run, "split", x.split(t), m.split(t));
        } else if (what < 51) {
            same(run, "answer", x.answer(), m.open(3));
        } else if (what < 57) {
            same(run, "value", one(x.value(line, t, b)), one(m.value(line, t, b)));
        } else if (what < 59) {
            same(run, "check", x.check(), m.check());
        } else if (what < 60 && (any(6) == 0 || m.lines.size() >= soon)) {
            same(run, "shorten", x.shorten(), m.shorten());
        } else if (what < 61) {
            int other = anyThing(m.things);
            same(run, "turn", x.turn(t, other), m.turn(t, other));
        } else if (what < 62) {
            same(run, "lines", x.lines(), m.lines.size());
            same(run, "kind", x.kind(line), m.kind(line));
        } else {
            int i = any(6) - 1;
            same(run, "member", x.member(line, i), m.member(line, i));
        }
    }

    /** Texts that are nearly ones of lines, read, then checked and shortened. */
    private static void runOfTexts(int run) {
        int things = any(3) == 0 ? 12 : 1 + any(5);
        ProofLines x = new ProofLines(things);
        Model m = new Model(things);
        for (int i = 0; i < 4; i++) {
            String text = anyText(things);
            for (int k = 0; k < text.length(); k++) {
                same(run, "unit", one(x.unit(text.charAt(k))), 1);
            }
            same(run, "read of " + text, x.read(), m.read(text));
            same(run, "check", x.check(), m.check());
            same(run, "shorten", x.shorten(), m.shorten());
            for (int k = 0; k < 40; k++) {
                same(run, "text after " + text, x.text(k), m.text(k));
            }
        }
    }

    private static String anyText(int things) {
        StringBuilder text = new StringBuilder();
        int lines = any(9);
        int flaw = any(3);
        for (int i = 0; i < lines; i++) {
            text.append("ggglja".charAt(any(6)));
            int literals = any(4);
            for (int k = 0; k < literals; k++) {
                text.append(any(2) == 0 ? " " : " -").append(1 + any(things + (flaw == 0 ? 1 : 0)));
            }
            text.append('\n');
        }
        if (flaw == 1 && text.length() > 0) {
            text.setCharAt(any(text.length()), "glja 0123-\n".charAt(any(11)));
        }
        if (flaw == 2) {
            text.setLength(text.length() - any(Math.min(4, text.length() + 1)));
        }
        return text.length() > 70 ? text.substring(0, 70) : text.toString();
    }

    private static final class Row {
        final int kind;
        final List<Integer> codes = new ArrayList<>();

        Row(int kind) {
            this.kind = kind;
        }
    }

    private static final class Model {
        final int things;
        List<Row> lines = new ArrayList<>();
        List<Integer> collected = new ArrayList<>();

        Model(int things) {
            this.things = things < 1 ? 1 : things > 64 ? 64 : things;
        }

        boolean isThing(int t) {
            return 0 <= t && t < things;
        }

        int open(int kind) {
            if (lines.size() == 80) {
                return -1;
            }
            lines.add(new Row(kind));
            return lines.size() - 1;
        }

        boolean isLast(int line, int kind) {
            return line >= 0 && line == lines.size() - 1 && lines.get(line).kind == kind;
        }

        boolean literal(int line, int t, boolean b) {
            int code = 2 * t + one(b);
            if (!isLast(line, 0) || !isThing(t) || lines.get(line).codes.contains(code)) {
                return false;
            }
            return lines.get(line).codes.add(code);
        }

        boolean collect(int t, boolean b) {
            return isThing(t) && !collected.contains(2 * t + one(b)) && collected.add(2 * t + one(b));
        }

        int learn() {
            int line = open(1);
            if (line >= 0) {
                lines.get(line).codes.addAll(collected);
                collected.clear();
            }
            return line;
        }

        int split(int t) {
            int n = lines.size();
            if (n == 80 || n < 2 || !isThing(t)) {
                return -1;
            }
            Row a = lines.get(n - 2);
            Row b = lines.get(n - 1);
            boolean cases = a.codes.contains(2 * t) && b.codes.contains(2 * t + 1)
                    || a.codes.contains(2 * t + 1) && b.codes.contains(2 * t);
            if (a.kind == 3 || b.kind == 3 || !cases) {
                return -1;
            }
            Row joined = new Row(2);
            joined.codes.addAll(a.codes);
            for (Integer code : b.codes) {
                if (!a.codes.contains(code)) {
                    joined.codes.add(code);
                }
            }
            joined.codes.removeIf(code -> code / 2 == t);
            lines.add(joined);
            return n;
        }

        boolean value(int line, int t, boolean b) {
            if (!isLast(line, 3) || !isThing(t)) {
                return false;
            }
            List<Integer> codes = lines.get(line).codes;
            return !codes.contains(2 * t) && !codes.contains(2 * t + 1) && codes.add(2 * t + one(b));
        }

        int check() {
            for (int i = 0; i < lines.size(); i++) {
                if (!right(lines, i)) {
                    return 1 + i;
                }
            }
            return 0;
        }

        boolean right(List<Row> rows, int line) {
            Row row = rows.get(line);
            if (row.kind == 0) {
                return true;
            }
            return row.kind == 3 ? rightAnswer(rows, line) : clash(rows.subList(0, line), row.codes);
        }

        boolean rightAnswer(List<Row> rows, int line) {
            List<Integer> codes = rows.get(line).codes;
            for (int t = 0; t < things; t++) {
                if (codes.contains(2 * t) == codes.contains(2 * t + 1)) {
                    return false;
                }
            }
            for (Row given : rows.subList(0, line)) {
                if (given.kind == 0 && given.codes.stream().noneMatch(codes::contains)) {
                    return false;
                }
            }
            return true;
        }

        boolean clash(List<Row> ahead, List<Integer> codes) {
            boolean[] holds = new boolean[2 * things];
            for (int code : codes) {
                holds[code ^ 1] = true;
            }
            for (int t = 0; t < things; t++) {
                if (holds[2 * t] && holds[2 * t + 1]) {
                    return true;
                }
            }
            while (true) {
                int next = step(ahead, holds);
                if (next < 0) {
                    return next == -2;
                }
                holds[next] = true;
            }
        }

        /** The next literal that holds; -1 when there is none; -2 at a CLASH. */
        int step(List<Row> ahead, boolean[] holds) {
            int next = -1;
            for (Row row : ahead) {
                int against = 0;
                int free = -1;
                for (int code : row.codes) {
                    against += one(holds[code ^ 1]);
                    free = !holds[code] && !holds[code ^ 1] ? code : free;
                }
                if (row.kind != 3 && against == row.codes.size()) {
                    return -2;
                }
                if (row.kind != 3 && against == row.codes.size() - 1 && free >= 0) {
                    next = free;
                }
            }
            return next;
        }

        int shorten() {
            for (int i = lines.size() - 2; i >= 0; i--) {
                if (lines.get(i).kind != 0 && canGo(i)) {
                    lines.remove(i);
                }
            }
            for (int i = 0; i < lines.size(); i++) {
                List<Integer> codes = lines.get(i).codes;
                boolean derived = lines.get(i).kind == 1 || lines.get(i).kind == 2;
                for (Integer code : new ArrayList<>(derived ? codes : List.of())) {
                    int at = codes.indexOf(code);
                    boolean before = right(lines, i);
                    codes.remove(at);
                    if (!before || !right(lines, i)) {
                        codes.add(at, code);
                    }
                }
            }
            return lines.size();
        }

        boolean canGo(int line) {
            List<Row> without = new ArrayList<>(lines);
            without.remove(line);
            for (int i = line + 1; i < lines.size(); i++) {
                if (right(lines, i) && !right(without, i - 1)) {
                    return false;
                }
            }
            return true;
        }

        int turn(int from, int to) {
            if (!isThing(from) || !isThing(to)) {
                return -1;
            }
            int others = turnIn(collected, from, to);
            for (Row row : lines) {
                others += turnIn(row.codes, from, to);
            }
            return others;
        }

        int turnIn(List<Integer> codes, int from, int to) {
            int others = 0;
            for (int i = 0; i < codes.size(); i++) {
                int t = codes.get(i) / 2;
                int now = t == from ? to : t == to ? from : t;
                others += one(t != now);
                codes.set(i, 2 * now + codes.get(i) % 2);
            }
            return others;
        }

        int kind(int line) {
            return line >= 0 && line < lines.size() ? lines.get(line).kind : -1;
        }

        int member(int line, int i) {
            if (kind(line) < 0 || i < 0 || i >= lines.get(line).codes.size()) {
                return -1;
            }
            return lines.get(line).codes.get(i);
        }

        int text(int i) {
            StringBuilder all = new StringBuilder();
            for (Row row : lines) {
                all.append("glja".charAt(row.kind));
                for (int code : row.codes) {
                    all.append(code % 2 == 0 ? " -" : " ").append(code / 2 + 1);
                }
                all.append('\n');
            }
            return i >= 0 && i < all.length() ? all.charAt(i) : -1;
        }

        int read(String text) {
            List<Row> rows = new ArrayList<>();
            int at = 0;
            while (at < text.length()) {
                int kind = "glja".indexOf(text.charAt(at));
                if (kind < 0 || rows.size() == 80) {
                    return -1 - at;
                }
                Row row = new Row(kind);
                rows.add(row);
                at++;
                while (at < text.length() && text.charAt(at) == ' ') {
                    at++;
                    boolean minus = at < text.length() && text.charAt(at) == '-';
                    at += one(minus);
                    int end = at;
                    while (end < text.length() && Character.isDigit(text.charAt(end))) {
                        end++;
                    }
                    if (!goes(row, text.substring(at, end), minus)) {
                        return -1 - at;
                    }
                    at = end;
                }
                if (at == text.length() || text.charAt(at) != '\n') {
                    return -1 - at;
                }
                at++;
            }
            lines = rows;
            return rows.size();
        }

        boolean goes(Row row, String number, boolean minus) {
            if (!number.matches("[1-9][0-9]{0,8}") || Integer.parseInt(number) > things) {
                return false;
            }
            int code = 2 * (Integer.parseInt(number) - 1) + one(!minus);
            if (row.codes.contains(code) || row.kind == 3 && row.codes.contains(code ^ 1)) {
                return false;
            }
            return row.codes.add(code);
        }
    }
}
