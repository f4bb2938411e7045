import java.io.File;
import java.io.IOException;
import java.lang.reflect.InvocationTargetException;
import java.net.URI;
import java.net.URL;
import java.net.URLClassLoader;
import java.nio.file.Files;
import java.nio.file.Path;
import java.util.ArrayList;
import java.util.List;
import java.util.Set;
import java.util.TreeSet;
import java.util.regex.Matcher;
import java.util.regex.Pattern;
import javax.tools.Diagnostic;
import javax.tools.DiagnosticCollector;
import javax.tools.JavaFileObject;
import javax.tools.SimpleJavaFileObject;
import javax.tools.ToolProvider;

/**
 * Runs the Java of README.md as it stands there: what is behind "=>" is what the call in that line has to answer.
 * And looks whether README.md names every test, and calls every method of the face.
 */
public final class ReadmeTest {
    private static final Checks c = new Checks("ReadmeTest");
    private static final Pattern ANSWERED = Pattern.compile("(?:int (\\w+) = )?(w\\..*\\));\\s*// => (\\S+?|throws \\w+)(?::.*)?");
    // Filled by the program that is made of README.md.
    public static final List<String> answers = new ArrayList<>();

    public static void main(String[] args) throws Exception {
        String text = Files.readString(Path.of("README.md"));
        List<List<String>> uses = uses(text);
        List<String> due = new ArrayList<>();
        StringBuilder program = new StringBuilder("public final class ReadmeUses {\n");
        for (int u = 0; u < uses.size(); u++) {
            program.append("public static void use").append(u).append("() {\n");
            int before = due.size();
            for (String line : uses.get(u)) program.append(statement(line, due)).append('\n');
            program.append("}\n");
            c.due("the use " + u + " tells answers", due.size() > before, true);
        }
        c.due("there are uses", uses.size() > 0, true);
        run(program.append("}\n").toString(), uses.size());
        compare(due);
        everyMethodIsUsed(uses);
        everyTestIsNamed(text);
        c.close();
    }

    private static List<List<String>> uses(String text) {
        List<List<String>> uses = new ArrayList<>();
        boolean isIn = false;
        for (String line : text.split("\n")) {
            if (line.equals("```java")) uses.add(new ArrayList<>());
            else if (isIn && !line.equals("```")) uses.get(uses.size() - 1).add(line);
            isIn = line.equals("```java") || isIn && !line.equals("```");
        }
        return uses;
    }

    /** The line as it stands, and behind it, or instead of it, what keeps the answer. */
    private static String statement(String line, List<String> due) {
        Matcher told = ANSWERED.matcher(line);
        if (!told.matches()) {
            c.due("no answer is told in a way that is not looked at: " + line, line.contains("=>"), false);
            return line;
        }
        due.add(told.group(2) + " => " + told.group(3));
        String keep = "ReadmeTest.answers.add(\"\" + ";
        if (told.group(1) != null) return line + "\n" + keep + told.group(1) + ");";
        if (!told.group(3).startsWith("throws ")) return keep + told.group(2) + ");";
        return "try { " + told.group(2) + "; " + keep + "\"nothing thrown\"); }"
            + " catch (RuntimeException e) { " + keep + "\"throws \" + e.getClass().getSimpleName()); }";
    }

    private static void run(String program, int uses) throws Exception {
        Path out = Files.createTempDirectory("readme");
        try (URLClassLoader loader = new URLClassLoader(new URL[] {out.toUri().toURL()}, ReadmeTest.class.getClassLoader())) {
            if (!compile(program, out)) return;
            for (int u = 0; u < uses; u++) {
                try {
                    loader.loadClass("ReadmeUses").getMethod("use" + u).invoke(null);
                } catch (InvocationTargetException e) {
                    c.tell("the use " + u + " threw " + e.getCause());
                }
            }
        } finally {
            Files.deleteIfExists(out.resolve("ReadmeUses.class"));
            Files.deleteIfExists(out);
        }
    }

    private static boolean compile(String program, Path out) throws IOException {
        var compiler = ToolProvider.getSystemJavaCompiler();
        var wrongs = new DiagnosticCollector<JavaFileObject>();
        JavaFileObject file = new SimpleJavaFileObject(URI.create("string:///ReadmeUses.java"), JavaFileObject.Kind.SOURCE) {
            @Override public CharSequence getCharContent(boolean ignored) { return program; }
        };
        var options = List.of("-d", out.toString(), "-cp", System.getProperty("java.class.path"), "-proc:none");
        boolean isCompiled = compiler.getTask(null, null, wrongs, options, null, List.of(file)).call();
        for (Diagnostic<?> wrong : wrongs.getDiagnostics()) c.tell("README.md's Java: " + wrong);
        c.due("README.md's Java compiles", isCompiled, true);
        return isCompiled;
    }

    private static void compare(List<String> due) {
        c.due("how many answers", answers.size(), due.size());
        for (int i = 0; i < due.size(); i++) {
            String got = i < answers.size() ? answers.get(i) : "nothing";
            c.due(due.get(i) + ", but it is " + got, due.get(i).endsWith(" => " + got), true);
        }
    }

    private static void everyMethodIsUsed(List<List<String>> uses) {
        String all = uses.toString();
        for (var method : Warehouselore.class.getDeclaredMethods()) {
            boolean isOfFace = java.lang.reflect.Modifier.isPublic(method.getModifiers());
            if (isOfFace) c.due("a use of " + method.getName(), all.contains("w." + method.getName() + "("), true);
        }
    }

    private static void everyTestIsNamed(String text) {
        Set<String> named = new TreeSet<>();
        Matcher row = Pattern.compile("(?m)^\\| `(\\w+Test)` \\|").matcher(text);
        while (row.find()) named.add(row.group(1));
        Set<String> there = new TreeSet<>();
        File[] files = new File("src/test/java").listFiles();
        for (File file : files == null ? new File[0] : files) {
            if (file.getName().endsWith("Test.java")) there.add(file.getName().replace(".java", ""));
        }
        c.due("named are " + named + ", there are " + there, named.equals(there) && !there.isEmpty(), true);
    }
}
