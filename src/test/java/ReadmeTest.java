import java.io.File;
import java.io.IOException;
import java.lang.reflect.Method;
import java.net.URL;
import java.net.URLClassLoader;
import java.nio.file.Files;
import java.nio.file.Path;
import java.util.ArrayList;
import java.util.Arrays;
import java.util.List;
import java.util.Map;
import java.util.Set;
import java.util.TreeMap;
import java.util.TreeSet;
import java.util.regex.MatchResult;
import java.util.regex.Matcher;
import java.util.regex.Pattern;
import javax.tools.JavaCompiler;
import javax.tools.ToolProvider;

/**
 * What README.md shows is so: its examples are compiled and run, each row of its tables of errors, statements,
 * commands and signs is tried, its tables of reasons and methods are compared with the class and the document.
 *
 * It is run where README.md is, with ../shared beside.
 */
public final class ReadmeTest {
    private static final Path PAGE = Path.of("README.md");
    private static final Path DOCUMENT = Path.of("../shared/DOC.md");
    private static final Path TESTS = Path.of("src/test/java");
    private static final Path EXAMPLES = Path.of("build/readme");
    private static final String PROGRAM = "ReadmeExamples";

    /** A statement, the answer that is told behind it, and what is said of this. */
    private static final Pattern TOLD = Pattern.compile(
        "(.*);\\s+// (throws (\\w+)|NONE|-?[0-9]+|[0-9]+\\.[0-9]+f?|\"[^\"]*\"|'.')(: .*)?");
    private static final Pattern CODE = Pattern.compile("`([^`]*)`(?: ([0-9]+) times)?");
    private static final Pattern MADE = Pattern.compile("OutlineKeeper (\\w+)\\b");
    private static final Pattern SIGNATURE = Pattern.compile("public (?:int|float|double) (\\w+)\\(([^)]*)\\)");

    private static int checks = 0;
    private static int wrong = 0;

    /** Public, as the examples call it, too. */
    public static void due(String what, Object got, Object want) {
        checks++;
        if (!want.equals(got)) {
            wrong++;
            System.out.println("README.md: " + what + ": is <" + got + ">, the page says <" + want + ">");
        }
    }

    // ---- the page

    /** Lines between two that begin with three backticks. */
    private static final class Block {
        final String kind;
        final int line;
        final List<String> lines = new ArrayList<>();

        Block(String kind, int line) {
            this.kind = kind;
            this.line = line;
        }

        boolean isOfMethods() {
            return lines.get(0).startsWith("/**") || lines.get(0).startsWith("static ");
        }
    }

    private static List<Block> blocks(List<String> page) {
        List<Block> blocks = new ArrayList<>();
        Block open = null;
        for (int i = 0; i < page.size(); i++) {
            String line = page.get(i);
            if (!line.startsWith("```")) {
                if (open != null) {
                    open.lines.add(line);
                }
            } else if (open == null) {
                open = new Block(line.substring(3), i + 1);
                blocks.add(open);
            } else {
                open = null;
            }
        }
        return blocks;
    }

    /** The rows of cells by the first line of their tables; those that begin alike are one. */
    private static Map<String, List<String[]>> tables(List<String> page) {
        Map<String, List<String[]>> tables = new TreeMap<>();
        List<String[]> open = null;
        for (String line : page) {
            if (!line.startsWith("|")) {
                open = null;
            } else if (open == null) {
                open = tables.computeIfAbsent(line, k -> new ArrayList<>());
            } else if (!line.startsWith("|---")) {
                open.add(cells(line));
            }
        }
        return tables;
    }

    private static String[] cells(String line) {
        String[] cells = line.substring(1, line.length() - 1).split("\\|", -1);
        for (int i = 0; i < cells.length; i++) {
            cells[i] = cells[i].trim();
        }
        return cells;
    }

    /** The pieces of code in a cell, each as many times as the cell says. */
    private static List<String> codes(String cell) {
        List<String> codes = new ArrayList<>();
        Matcher m = CODE.matcher(cell);
        while (m.find()) {
            codes.add(m.group(1).repeat(m.group(2) == null ? 1 : Integer.parseInt(m.group(2))));
        }
        return codes;
    }

    // ---- the examples

    /** A class of the examples, in which each call of a keeper is counted. */
    private static String program(List<Block> blocks) {
        StringBuilder methods = new StringBuilder();
        StringBuilder statements = new StringBuilder();
        Pattern calls = callsOfKeepers(blocks);
        for (Block block : blocks) {
            if (block.kind.equals("text")) {
                statements.append(told("the lines of line " + block.line, "written(keeper)", quoted(String.join("\n", block.lines) + "\n")));
            } else if (block.kind.equals("java") && block.isOfMethods()) {
                methods.append(counted(String.join("\n", block.lines), calls)).append('\n');
            } else if (block.kind.equals("java")) {
                for (String line : block.lines) {
                    statements.append(statement(line, calls));
                }
            } else {
                due("line " + block.line + ": the kind of what begins there", "sh", block.kind);
            }
        }
        return "public final class " + PROGRAM + " {\n" + methods + "public static void run() {\n" + statements + "}\n"
            + "private static final java.util.Map<OutlineKeeper, Integer> CALLS = new java.util.IdentityHashMap<>();\n"
            + "private static OutlineKeeper counted(OutlineKeeper x) {\n"
            + "if (CALLS.merge(x, 1, Integer::sum) > 512) { throw new AssertionError(\"more than 512 calls\"); }\n"
            + "return x;\n}\n}\n";
    }

    private static Pattern callsOfKeepers(List<Block> blocks) {
        Set<String> names = new TreeSet<>();
        for (Block block : blocks) {
            Matcher m = MADE.matcher(String.join("\n", block.lines));
            while (m.find()) {
                names.add(m.group(1));
            }
        }
        return Pattern.compile("\\b(" + String.join("|", names) + ")\\.(?=\\w+\\()");
    }

    private static String counted(String code, Pattern calls) {
        return calls.matcher(code).replaceAll("counted($1).");
    }

    private static String statement(String line, Pattern calls) {
        Matcher m = TOLD.matcher(line);
        if (!m.matches()) {
            due("a comment that tells no answer: " + line, line.contains("//"), false);
            return counted(line, calls) + "\n";
        }
        String call = m.group(1).trim();
        String got = counted(call, calls);
        if (m.group(3) == null) {
            return told(call, got, wanted(m.group(2)));
        }
        String want = quoted(m.group(3));
        return "try {\n" + got + ";\n" + told(call, quoted("no exception"), want)
            + "} catch (RuntimeException e) {\n" + told(call, "e.getClass().getSimpleName()", want) + "}\n";
    }

    private static String told(String what, String got, String want) {
        return "ReadmeTest.due(" + quoted(what) + ", " + got + ", " + want + ");\n";
    }

    private static String wanted(String answer) {
        return answer.equals("NONE") ? "OutlineKeeper.NONE" : answer.startsWith("'") ? "(int) " + answer : answer;
    }

    private static String quoted(String text) {
        return "\"" + text.replace("\\", "\\\\").replace("\"", "\\\"").replace("\n", "\\n") + "\"";
    }

    private static void needExamples(List<Block> blocks) throws IOException, ReflectiveOperationException {
        Files.createDirectories(EXAMPLES);
        Path source = EXAMPLES.resolve(PROGRAM + ".java");
        Files.writeString(source, program(blocks));
        String classes = System.getProperty("java.class.path") + File.pathSeparator + EXAMPLES;
        JavaCompiler compiler = ToolProvider.getSystemJavaCompiler();
        int failed = compiler.run(null, null, null, "-cp", classes, "-d", EXAMPLES.toString(), source.toString());
        due("the examples compile (0: they do)", failed, 0);
        if (failed == 0) {
            int before = checks;
            try (URLClassLoader loader = new URLClassLoader(new URL[] {EXAMPLES.toUri().toURL()}, ReadmeTest.class.getClassLoader())) {
                loader.loadClass(PROGRAM).getMethod("run").invoke(null);
            }
            due("there are examples", checks > before, true);
        }
    }

    // ---- what the tables show

    private static OutlineKeeper keeper(String outline) {
        OutlineKeeper x = new OutlineKeeper();
        put(x, outline);
        x.load();
        return x;
    }

    private static void put(OutlineKeeper x, String text) {
        for (int i = 0; i < text.length(); i++) {
            x.append(0, 0, 0, 0, text.charAt(i));
        }
    }

    private static String numberOf(OutlineKeeper x, int place) {
        StringBuilder number = new StringBuilder();
        for (int i = 0; i < x.heading(place, 10); i++) {
            number.append((char) x.number(place, i));
        }
        return number.toString();
    }

    private static String row(OutlineKeeper x) {
        StringBuilder row = new StringBuilder();
        for (int i = 0; i < x.size(0); i++) {
            row.append(x.heading(i, 0)).append((char) x.letter(i, 0)).append(x.heading(i, 6)).append(x.heading(i, 7)).append(' ');
        }
        return row.toString();
    }

    private static void needErrors(List<String[]> rows, boolean isScript) {
        for (String[] cells : rows) {
            OutlineKeeper x = new OutlineKeeper();
            String text = codes(cells[0]).get(0);
            for (int i = 0; i < text.length(); i += 4) {
                String four = (text + "\0\0\0").substring(i, i + 4);
                x.append(four.charAt(0) << 24 | four.charAt(1) << 16 | four.charAt(2) << 8 | four.charAt(3), 0, 0, 0, 0);
            }
            due(cells[0] + " answers", isScript ? x.play() : x.load(), OutlineKeeper.NONE);
            due(cells[0] + ": the code", Integer.toString(x.errorCode()), cells[1]);
            due(cells[0] + ": the position", Integer.toString(x.errorPosition()), cells[2]);
        }
    }

    private static void needStatements(List<String[]> rows) {
        OutlineKeeper x = keeper("*a;" + codes(rows.get(0)[0]).get(0) + codes(rows.get(1)[0]).get(0));
        due("the statement of a heading", row(x), "1a00 2r11 ");
        for (int what = 0; what < 4; what++) {
            due("the statement of a style", x.style(3, what), what < 2 ? 2 : 1);
        }
        List<String> said = codes(rows.get(1)[1]);
        for (int style = 0; style < 6; style++) {
            due("the style " + said.get(style), keeper("style 1 " + said.get(style) + ";").style(1, 0), style);
        }
    }

    private static void needSigns(String head, List<String[]> rows) {
        String[] counts = cells(head);
        for (String[] cells : rows) {
            String[] style = cells[0].split(" ");
            for (int i = 1; i < cells.length; i++) {
                OutlineKeeper x = keeper("style 1 " + style[1] + " from " + counts[i].replaceAll("\\D", "") + ";*a;");
                due(cells[0] + " is the style", Integer.toString(x.style(1, 0)), style[0]);
                due(cells[0] + " of " + counts[i], numberOf(x, 0), cells[i]);
            }
        }
    }

    private static void needCommands(List<String[]> rows) throws ReflectiveOperationException {
        due("commands", rows.size(), 8);
        for (String[] cells : rows) {
            List<String> acts = codes(cells[1]);
            String command = codes(cells[0]).get(0);
            needCommand(command, acts.get(0));
            for (int way = 0; way + 1 < acts.size(); way++) {
                needCommand("move 3 1 " + acts.get(way + 1) + ";", "move(3, 1, " + way + ")");
            }
        }
    }

    /** Does the command, and with another keeper the act; what a folded heading can't do, one that isn't can. */
    private static void needCommand(String command, String act) throws ReflectiveOperationException {
        int done = 0;
        for (String folded : new String[] {"", " folded"}) {
            OutlineKeeper one = keeper("*a;**b;**x;**c" + folded + ";***e;***d;");
            OutlineKeeper other = keeper("*a;**b;**x;**c" + folded + ";***e;***d;");
            String was = row(one);
            put(one, command);
            int commands = one.play();
            due(command + " done", commands, answer(other, act) >= 0 ? 1 : 0);
            due(command + " done as " + act, row(one), row(other));
            done += row(one).equals(was) ? 0 : commands;
        }
        due(command + " does something", done > 0, true);
    }

    private static int answer(OutlineKeeper x, String call) throws ReflectiveOperationException {
        String name = call.substring(0, call.indexOf('('));
        String[] told = call.substring(call.indexOf('(') + 1, call.length() - 1).split(", ");
        for (Method m : OutlineKeeper.class.getMethods()) {
            if (m.getName().equals(name)) {
                Object[] given = new Object[told.length];
                for (int i = 0; i < given.length; i++) {
                    given[i] = m.getParameterTypes()[i] == boolean.class ? (Object) Boolean.valueOf(told[i]) : Integer.valueOf(told[i]);
                }
                return (int) m.invoke(x, given);
            }
        }
        throw new NoSuchMethodException(call);
    }

    // ---- what the tables say of the class and the document

    private static void needReasons(List<String[]> rows, String document) {
        due("reasons", rows.size(), 7);
        for (String[] cells : rows) {
            due("the document tells reason " + cells[0], document.contains("\n  " + cells[0] + " " + cells[1] + "\n"), true);
        }
    }

    /** The rows tell calls, answers, for acts the reasons, and exceptions. */
    private static void needMethods(List<String[]> rows, String document, Set<String> told) {
        for (String[] cells : rows) {
            String call = codes(cells[0]).get(0);
            due(call + " stands there once", told.add(call), true);
            String name = call.substring(0, call.indexOf('('));
            due(call + ": reasons", reasons(name, document), cells.length == 4 ? cells[2] : "");
            List<String> exceptions = codes(cells[cells.length - 1]);
            due(call + ": exceptions", thrown(name), exceptions);
        }
    }

    private static String reasons(String name, String document) {
        Matcher m = Pattern.compile("## Promise [0-9]+: " + name + "\n(?:(?!## )[^\n]*\n)*?[^\n]*minus the reason: ([^\n]*)").matcher(document);
        return m.find() ? String.join(", ", Pattern.compile("[0-9]").matcher(m.group(1)).results().map(MatchResult::group).toList()) : "";
    }

    private static List<String> thrown(String name) {
        List<String> thrown = new ArrayList<>();
        for (Method m : OutlineKeeper.class.getDeclaredMethods()) {
            if (m.getName().equals(name)) {
                for (Class<?> e : m.getExceptionTypes()) {
                    thrown.add(e.getSimpleName());
                }
            }
        }
        return thrown;
    }

    /** The methods that the document's face has, as the page tells them: by names and parameters' names. */
    private static Set<String> face(String document) {
        Set<String> face = new TreeSet<>();
        Matcher m = SIGNATURE.matcher(document);
        while (m.find()) {
            face.add(m.group(1) + "(" + m.group(2).replaceAll("\\b(int|boolean) ", "") + ")");
        }
        return face;
    }

    // ---- the test

    private static List<String[]> take(Map<String, List<String[]>> tables, String head) {
        List<String[]> rows = tables.remove(head);
        due("a table that begins " + head, rows != null && !rows.isEmpty(), true);
        return rows == null ? new ArrayList<>() : rows;
    }

    private static void needTables(Map<String, List<String[]>> tables, String document) throws ReflectiveOperationException {
        String signs = "| style | COUNT 1 | 4 | 9 | 26 | 27 | 40 | 90 | 99 |";
        needStatements(take(tables, "| statement | what it says |"));
        needSigns(signs, take(tables, signs));
        needCommands(take(tables, "| command | done as |"));
        needErrors(take(tables, "| outline | code | position | why |"), false);
        needErrors(take(tables, "| script | code | position | why |"), true);
        needReasons(take(tables, "| reason | |"), document);
        Set<String> told = new TreeSet<>();
        needMethods(take(tables, "| call | answer | throws |"), document, told);
        needMethods(take(tables, "| call | answer | reasons | throws |"), document, told);
        due("the methods", face(document), told);
        due("tables without a test", tables.keySet().toString(), "[]");
    }

    private static void needTests(String page) throws IOException {
        for (File file : new TreeSet<>(Arrays.asList(TESTS.toFile().listFiles()))) {
            due(file + " is told", page.contains("`" + file.getName().replace(".java", "") + "`"), true);
        }
    }

    public static void main(String[] args) throws IOException, ReflectiveOperationException {
        List<String> page = Files.readAllLines(PAGE);
        String document = Files.readString(DOCUMENT);
        needExamples(blocks(page));
        needTables(tables(page), document);
        needTests(String.join("\n", page));
        System.out.println(checks + " checks of README.md, " + wrong + " wrong");
        if (wrong != 0) {
            System.exit(1);
        }
    }
}
