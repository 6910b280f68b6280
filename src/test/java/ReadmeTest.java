import java.io.File;
import java.lang.reflect.InvocationTargetException;
import java.net.URL;
import java.net.URLClassLoader;
import java.nio.file.Files;
import java.nio.file.Path;
import java.util.ArrayList;
import java.util.Comparator;
import java.util.List;
import java.util.regex.Matcher;
import java.util.regex.Pattern;
import java.util.stream.Stream;
import javax.tools.JavaCompiler;
import javax.tools.StandardJavaFileManager;
import javax.tools.ToolProvider;

/** The runs that README.md shows, made as they stand there: each call must answer what is printed behind it. */
public final class ReadmeTest {
    private static final Pattern ANSWERED = Pattern.compile("(archive\\.\\w+\\(.*\\)); *// (-?\\d+)(: .*)?");

    private static int wrong = 0;

    private static void must(boolean holds, String what) {
        if (!holds) {
            wrong++;
            System.out.println("not so: " + what);
        }
    }

    public static void main(String[] args) throws Exception {
        String readme = Files.readString(Path.of(System.getProperty("project.root", "."), "README.md"));
        String doc = Files.readString(Path.of(System.getProperty("shared.root", "../shared"), "DOC.md"));
        List<String> lines = runs(readme);
        int methods = 0;
        Matcher face = Pattern.compile("public ((?:int|long) (\\w+)\\([^)]*\\));").matcher(doc);
        while (face.find()) {
            methods++;
            String name = face.group(2);
            must(readme.contains("\n| `" + face.group(1) + "` | "), "a table tells " + face.group(1));
            must(lines.stream().anyMatch(line -> line.startsWith("archive." + name + "(")), "a run shows " + name);
        }
        must(methods == 35, "35 methods are printed: " + methods);
        int answers = make(lines);
        System.out.println("README.md: " + answers + " answers of " + methods + " methods: "
                + (wrong == 0 ? "all are as printed" : wrong + " things are not so"));
        System.exit(wrong == 0 ? 0 : 1);
    }

    private static List<String> runs(String readme) {
        List<String> lines = new ArrayList<>();
        Matcher run = Pattern.compile("(?s)\n```java\n(.*?)```").matcher(readme);
        while (run.find()) {
            lines.addAll(List.of(run.group(1).split("\n")));
        }
        return lines;
    }

    /** All runs of the page are one program: each line with an answer printed becomes a comparison. */
    private static int make(List<String> lines) throws Exception {
        StringBuilder program = new StringBuilder("public final class Shown implements java.util.function.IntSupplier {\n"
                + "int wrong = 0;\nvoid due(String call, long got, long want) { if (got != want) { wrong++;\n"
                + "System.out.println(\"README.md: \" + call + \" answered \" + got + \", printed is \" + want); } }\n"
                + "public int getAsInt() {\n");
        int answers = 0;
        for (String line : lines) {
            Matcher answered = ANSWERED.matcher(line);
            if (answered.matches()) {
                answers++;
                String call = answered.group(1);
                program.append("due(\"").append(call).append("\", ").append(call).append(", ")
                        .append(answered.group(2)).append("L);\n");
            } else {
                must(!line.startsWith("archive."), "an answer is printed behind " + line);
                program.append(line).append('\n');
            }
        }
        program.append("return wrong;\n}\n}\n");
        Path folder = Files.createTempDirectory("readme");
        try {
            wrong += runProgram(folder, program.toString());
        } finally {
            try (Stream<Path> all = Files.walk(folder)) {
                all.sorted(Comparator.reverseOrder()).map(Path::toFile).forEach(File::delete);
            }
        }
        return answers;
    }

    private static int runProgram(Path folder, String program) throws Exception {
        Path source = folder.resolve("Shown.java");
        Files.writeString(source, program);
        JavaCompiler compiler = ToolProvider.getSystemJavaCompiler();
        String path = System.getProperty("java.class.path");
        try (StandardJavaFileManager files = compiler.getStandardFileManager(null, null, null)) {
            boolean isCompiled = compiler.getTask(null, files, null, List.of("-d", folder.toString(), "-cp", path), null,
                    files.getJavaFileObjects(source)).call();
            must(isCompiled, "the runs that the page shows compile");
            if (!isCompiled) {
                return 0;
            }
        }
        try (URLClassLoader loader = new URLClassLoader(new URL[] {folder.toUri().toURL()})) {
            Object shown = loader.loadClass("Shown").getConstructor().newInstance();
            return ((java.util.function.IntSupplier) shown).getAsInt();
        } catch (InvocationTargetException e) {
            must(false, "the runs end: " + e.getCause());
            return 0;
        }
    }
}
