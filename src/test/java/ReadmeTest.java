import java.io.IOException;
import java.io.StringWriter;
import java.lang.reflect.Field;
import java.lang.reflect.Method;
import java.lang.reflect.Modifier;
import java.net.URI;
import java.net.URL;
import java.net.URLClassLoader;
import java.nio.file.Files;
import java.nio.file.Path;
import java.util.ArrayList;
import java.util.Comparator;
import java.util.List;
import java.util.TreeSet;
import java.util.function.Supplier;
import java.util.regex.Matcher;
import java.util.regex.Pattern;
import java.util.stream.Stream;
import javax.tools.JavaCompiler;
import javax.tools.JavaFileObject;
import javax.tools.SimpleJavaFileObject;
import javax.tools.ToolProvider;

/**
 * README.md: the lines of its examples are compiled as they stand there, in one method, and each call
 * must answer what is written behind it; its tables tell every refusal and every test.
 */
public final class ReadmeTest {
    private static final Path ROOT = Path.of(System.getProperty("root", "."));
    private static final String NEW_DESK = "LessonDesk desk = new LessonDesk();";

    /** A call, the variable that may take its answer, and the answer: a number, or a name and its number. */
    private static final Pattern SHOWN = Pattern.compile(
        "(?:int (\\w+) = )?(desk\\.(\\w+)\\(.*\\));\\s+// (?:([A-Z]+) \\((-\\d+)\\)|(-?\\d+))(?::.*)?");

    /** One line of an example that shows a call. */
    private static final class Shown {
        String line;
        String call;
        String variable;
        String method;
        String name;
        long answer;
    }

    public static void main(String[] args) throws Exception {
        List<String> page = Files.readAllLines(ROOT.resolve("README.md"));
        examples(linesOfExamples(page));
        refusals(page);
        tests(page);
        Check.end();
    }

    // ---- examples

    private static List<String> linesOfExamples(List<String> page) {
        List<String> lines = new ArrayList<>();
        boolean isJava = false;
        for (String line : page) {
            if (line.startsWith("```")) {
                isJava = line.equals("```java");
            } else if (isJava && !line.isBlank()) {
                lines.add(line.trim());
            }
        }
        return lines;
    }

    private static void examples(List<String> lines) throws Exception {
        Check.due("an example begins with a new desk", !lines.isEmpty() && lines.get(0).equals(NEW_DESK));
        List<Shown> all = new ArrayList<>();
        for (String line : lines.subList(Math.min(1, lines.size()), lines.size())) {
            Shown shown = shownBy(line);
            Check.due("'" + line + "' shows a call and its answer", shown != null);
            if (shown != null) {
                all.add(shown);
            }
        }
        everyCall(all);
        answers(all);
    }

    private static Shown shownBy(String line) {
        Matcher m = SHOWN.matcher(line);
        if (!m.matches()) {
            return null;
        }
        Shown shown = new Shown();
        shown.line = line;
        shown.variable = m.group(1);
        shown.call = m.group(2);
        shown.method = m.group(3);
        shown.name = m.group(4);
        shown.answer = Long.parseLong(shown.name != null ? m.group(5) : m.group(6));
        return shown;
    }

    private static void everyCall(List<Shown> all) {
        TreeSet<String> shown = new TreeSet<>();
        for (Shown one : all) {
            shown.add(one.method);
        }
        TreeSet<String> face = new TreeSet<>();
        for (Method m : LessonDesk.class.getDeclaredMethods()) {
            if (Modifier.isPublic(m.getModifiers())) {
                face.add(m.getName());
            }
        }
        Check.due("calls that examples show, " + shown + ", are the face, " + face, shown.equals(face));
        Check.due("an object is for 512 calls, examples make " + all.size(), all.size() <= 512);
    }

    private static void answers(List<Shown> all) throws Exception {
        long[] got = run(program(all));
        Check.due("answers", got.length, all.size());
        for (int i = 0; i < Math.min(got.length, all.size()); i++) {
            Shown one = all.get(i);
            Check.due(one.line, got[i], one.answer);
            if (one.name != null) {
                Check.due(one.line + " names " + one.name, LessonDesk.class.getField(one.name).getInt(null), one.answer);
            }
        }
    }

    /** The lines as they stand, each call's answer put into a row. */
    private static String program(List<Shown> all) {
        StringBuilder text = new StringBuilder();
        text.append("public final class ReadmeExample implements java.util.function.Supplier<long[]> {\n");
        text.append("public long[] get() {\nlong[] got = new long[").append(all.size()).append("];\n");
        text.append(NEW_DESK).append('\n');
        for (int i = 0; i < all.size(); i++) {
            Shown one = all.get(i);
            String answer = one.call;
            if (one.variable != null) {
                text.append("int ").append(one.variable).append(" = ").append(one.call).append(";\n");
                answer = one.variable;
            }
            text.append("got[").append(i).append("] = ").append(answer).append(";\n");
        }
        return text.append("return got;\n}\n}\n").toString();
    }

    private static long[] run(String program) throws Exception {
        Path out = Files.createTempDirectory("readme");
        try {
            if (!compiles(program, out)) {
                return new long[0];
            }
            URL[] from = {out.toUri().toURL()};
            try (URLClassLoader loader = new URLClassLoader(from, ReadmeTest.class.getClassLoader())) {
                Object made = loader.loadClass("ReadmeExample").getConstructor().newInstance();
                return (long[]) ((Supplier<?>) made).get();
            }
        } finally {
            remove(out);
        }
    }

    private static boolean compiles(String program, Path out) {
        JavaCompiler compiler = ToolProvider.getSystemJavaCompiler();
        Check.due("there is a compiler", compiler != null);
        if (compiler == null) {
            return false;
        }
        JavaFileObject source = new SimpleJavaFileObject(URI.create("string:///ReadmeExample.java"), JavaFileObject.Kind.SOURCE) {
            @Override
            public CharSequence getCharContent(boolean ignoreErrors) {
                return program;
            }
        };
        StringWriter told = new StringWriter();
        List<String> options = List.of("-d", out.toString(), "-cp", System.getProperty("java.class.path"));
        boolean done = compiler.getTask(told, null, null, options, null, List.of(source)).call();
        Check.due("the examples compile " + told, done);
        return done;
    }

    private static void remove(Path folder) throws IOException {
        try (Stream<Path> all = Files.walk(folder)) {
            for (Path path : all.sorted(Comparator.reverseOrder()).toList()) {
                Files.delete(path);
            }
        }
    }

    // ---- tables

    /** Each constant of the face stands in a row with its number, and no row tells another one. */
    private static void refusals(List<String> page) throws Exception {
        TreeSet<String> want = new TreeSet<>();
        for (Field f : LessonDesk.class.getFields()) {
            want.add(f.getName() + " " + f.getInt(null));
        }
        TreeSet<String> got = new TreeSet<>();
        Pattern row = Pattern.compile("\\| `([A-Z]+)` \\| (-\\d+) \\| .+ \\|");
        for (String line : page) {
            Matcher m = row.matcher(line);
            if (m.matches()) {
                got.add(m.group(1) + " " + m.group(2));
            }
        }
        Check.due("refusals " + got + " are " + want, got.equals(want));
    }

    /** The first cells of the last table name all tests of the project, and nothing else. */
    private static void tests(List<String> page) throws IOException {
        TreeSet<String> want = new TreeSet<>();
        try (Stream<Path> files = Files.list(ROOT.resolve("src/test/java"))) {
            files.map(file -> file.getFileName().toString()).filter(name -> name.endsWith("Test.java"))
                .forEach(name -> want.add(name.substring(0, name.length() - ".java".length())));
        }
        TreeSet<String> got = new TreeSet<>();
        for (String line : page) {
            if (line.matches("\\| \\w+Test\\b.*")) {
                got.addAll(List.of(line.split("\\|")[1].trim().split(", ")));
            }
        }
        Check.due("tests " + got + " are " + want, got.equals(want));
        Check.due("the page says how to run them", page.contains(".ci/run"));
        Check.due(".ci/run can be run", Files.isExecutable(ROOT.resolve(".ci/run")));
    }
}
