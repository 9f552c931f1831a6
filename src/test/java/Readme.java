import com.sun.management.ThreadMXBean;
import java.io.IOException;
import java.lang.management.ManagementFactory;
import java.lang.reflect.Method;
import java.lang.reflect.Modifier;
import java.net.URL;
import java.net.URLClassLoader;
import java.nio.file.Files;
import java.nio.file.Path;
import java.util.List;
import java.util.function.ToIntFunction;
import java.util.regex.Matcher;
import java.util.regex.Pattern;
import javax.tools.JavaCompiler;
import javax.tools.ToolProvider;

/**
 * What README.md says of the class's use holds as it is written there: its java blocks become one
 * program in which every call that has its answer behind it is looked at, and so is, by each text
 * block, the text of x at that point.
 */
public final class Readme {
    private static final Pattern ANSWERED =
            Pattern.compile("(.*\\S);\\s+// (-?\\d+|true|false)(?::.*)?");
    private static final Pattern ASSIGNED = Pattern.compile("(?:int )?(\\w+) = .*");

    private static int looked = 0;
    private static int wrong = 0;

    public static void main(String[] args) throws Exception {
        List<String> readme = Files.readAllLines(Path.of("README.md"));
        runProgram(programOf(readme));
        everyCallIsUsed(readme);
        refusedCallsChangeNothing();
        laterCallsMakeNoObject();
        System.out.println(looked + " answers looked at, " + wrong + " wrong");
        if (wrong != 0) {
            System.exit(1);
        }
    }

    /** Called by the program that README.md becomes, too. */
    public static void due(String what, Object got, Object want) {
        looked++;
        if (!want.equals(got)) {
            wrong++;
            System.out.println("README.md: " + what + " answered " + got + ", due is " + want);
        }
    }

    public static String textOf(ProofLines x) {
        StringBuilder all = new StringBuilder();
        // Each byte is asked for once, so that no object here comes near its 512 calls.
        for (int i = 0, b = x.text(0); i < 300 && b != -1; i++, b = x.text(i)) {
            all.append((char) b);
        }
        return all.toString();
    }

    // ---- The examples

    private static String programOf(List<String> readme) {
        StringBuilder program = new StringBuilder("public final class ReadmeUse {\n"
                + "public static void main(String[] args) {\n");
        StringBuilder text = new StringBuilder();
        int answers = 0;
        int texts = 0;
        String block = "";
        for (String line : readme) {
            if (line.startsWith("```")) {
                if (block.equals("```text")) {
                    texts++;
                    program.append("Readme.due(\"the text\", Readme.textOf(x), \"")
                            .append(text).append("\");\n");
                    text.setLength(0);
                }
                block = block.isEmpty() ? line : "";
            } else if (block.equals("```java")) {
                answers += ANSWERED.matcher(line).matches() ? 1 : 0;
                program.append(looking(line)).append('\n');
            } else if (block.equals("```text")) {
                text.append(line).append("\\n");
            }
        }
        due("whether there are answers and texts to look at", answers > 0 && texts > 0, true);
        return program.append("}\n}\n").toString();
    }

    private static String looking(String line) {
        Matcher answered = ANSWERED.matcher(line);
        if (!answered.matches()) {
            return line;
        }
        String call = answered.group(1);
        Matcher assigned = ASSIGNED.matcher(call);
        boolean kept = assigned.matches();
        return (kept ? call + "; " : "") + "Readme.due(\"" + call.replace("\"", "\\\"") + "\", "
                + (kept ? assigned.group(1) : call) + ", " + answered.group(2) + ");";
    }

    private static void runProgram(String program) throws Exception {
        Path folder = Files.createTempDirectory("readme");
        try {
            Path source = folder.resolve("ReadmeUse.java");
            Files.writeString(source, program);
            JavaCompiler compiler = ToolProvider.getSystemJavaCompiler();
            int exit = compiler == null ? -1 : compiler.run(null, null, null, "--release", "17",
                    "-encoding", "UTF-8", "-cp", System.getProperty("java.class.path"),
                    "-d", folder.toString(), source.toString());
            due("the compiler, for the examples,", exit, 0);
            if (exit == 0) {
                runCompiled(folder);
            }
        } finally {
            removeAll(folder);
        }
    }

    private static void runCompiled(Path folder) throws Exception {
        try (URLClassLoader loader = new URLClassLoader(new URL[] {folder.toUri().toURL()})) {
            Method main = loader.loadClass("ReadmeUse").getMethod("main", String[].class);
            main.invoke(null, (Object) new String[0]);
        }
    }

    private static void removeAll(Path folder) throws IOException {
        try (var files = Files.list(folder)) {
            for (Path file : files.toList()) {
                Files.delete(file);
            }
        }
        Files.delete(folder);
    }

    private static void everyCallIsUsed(List<String> readme) {
        String all = String.join("\n", readme);
        for (Method m : ProofLines.class.getDeclaredMethods()) {
            if (Modifier.isPublic(m.getModifiers())) {
                Pattern call = Pattern.compile("\\b[xy]\\." + m.getName() + "\\(");
                due("whether an example uses " + m.getName(), call.matcher(all).find(), true);
            }
        }
    }

    // ---- "One that is refused changes nothing", and "read alone .."

    private static void refusedCallsChangeNothing() {
        refused("literal", x -> one(x.literal(0, 0, true)), 0);
        refused("collect", x -> one(x.collect(1, false)), 0);
        refused("value", x -> one(x.value(79, 0, false)), 0);
        refused("unit", x -> one(x.unit(256)), 0);
        refused("given", ProofLines::given, -1);
        refused("learn", ProofLines::learn, -1);
        refused("split", x -> x.split(0), -1);
        refused("answer", ProofLines::answer, -1);
        refused("turn", x -> x.turn(0, 2), -1);
        refused("kind", x -> x.kind(80), -1);
        refused("member", x -> x.member(79, 1), -1);
        refused("text", x -> x.text(1000), -1);
        readAlone();
    }

    private static int one(boolean b) {
        return b ? 1 : 0;
    }

    /** An object with 80 lines, a literal that is collected, and a text that ends within a line. */
    private static ProofLines full() {
        ProofLines x = new ProofLines(2);
        for (int i = 0; i < 77; i++) {
            x.given();
        }
        x.literal(x.given(), 0, true);
        x.literal(x.given(), 0, false);
        x.value(x.answer(), 0, true);
        x.collect(1, false);
        x.unit('g');
        return x;
    }

    private static void refused(String call, ToIntFunction<ProofLines> made, int want) {
        ProofLines x = full();
        String before = textOf(x);
        due("a refused " + call, made.applyAsInt(x), want);
        due("the text after a refused " + call, textOf(x), before);
        due("read after a refused " + call, x.read(), -2);
        due("read of no text after it", x.read(), 0);
        due("learn after it", x.learn(), 0);
        due("the text after that", textOf(x), "l -2\n");
    }

    private static void readAlone() {
        ProofLines x = full();
        String before = textOf(x);
        due("a refused read", x.read(), -2);
        due("the text after it", textOf(x), before);
        due("read of the text that is gone", x.read(), 0);
    }

    // ---- "no later call makes an object"

    /** By the bytes that this thread was given, where the Java machine tells them. */
    private static void laterCallsMakeNoObject() {
        if (!(ManagementFactory.getThreadMXBean() instanceof ThreadMXBean bean)
                || !bean.isThreadAllocatedMemorySupported()
                || !bean.isThreadAllocatedMemoryEnabled()) {
            return;
        }
        ProofLines[] all = new ProofLines[200];
        for (int i = 0; i < all.length; i++) {
            all[i] = full();
        }
        long self = Thread.currentThread().getId();
        everyCall(all[0]);
        long before = bean.getThreadAllocatedBytes(self);
        for (int i = 1; i < all.length; i++) {
            everyCall(all[i]);
        }
        long bytes = bean.getThreadAllocatedBytes(self) - before;
        // An object takes 16 bytes: one for each of these would be as much.
        due("whether later calls make objects", bytes >= 16L * (all.length - 1), false);
    }

    /** At 80 lines at first; the second text is read, so that there is room in the third round. */
    private static void everyCall(ProofLines x) {
        for (int round = 0; round < 3; round++) {
            x.collect(0, true);
            x.collect(1, true);
            x.literal(x.given(), 1, true);
            x.literal(x.given(), 1, false);
            x.split(1);
            x.learn();
            x.value(x.answer(), 0, false);
            x.check();
            x.shorten();
            x.turn(0, 1);
            x.kind(x.lines() - 1);
            x.member(0, x.text(0));
            x.unit('a');
            x.unit(' ');
            x.unit('-');
            x.unit('1');
            x.unit(10);
            x.read();
        }
    }
}
