import java.lang.reflect.Constructor;
import java.lang.reflect.Field;
import java.lang.reflect.Method;
import java.lang.reflect.Modifier;
import java.nio.file.Files;
import java.nio.file.Path;
import java.util.ArrayList;
import java.util.HashSet;
import java.util.List;
import java.util.Set;
import java.util.TreeSet;
import java.util.regex.Matcher;
import java.util.regex.Pattern;

/** The face as the document prints it, and rules of LANGUAGE.md that can be seen in the text. */
public final class FaceTest {
    private static int wrong = 0;

    private static void must(boolean holds, String what) {
        if (!holds) {
            wrong++;
            System.out.println("not so: " + what);
        }
    }

    public static void main(String[] args) throws Exception {
        Path root = Path.of(System.getProperty("project.root", "."));
        Path shared = Path.of(System.getProperty("shared.root", "../shared"));
        String doc = Files.readString(shared.resolve("DOC.md"));
        String source = Files.readString(root.resolve("src/main/java/ArchiveOfDeltas.java"));
        face(doc);
        inside(ArchiveOfDeltas.class);
        text(source);
        System.out.println(wrong == 0 ? "the face is as due" : wrong + " rules are broken");
        if (wrong != 0) {
            System.exit(1);
        }
    }

    private static void face(String doc) {
        int from = doc.indexOf("```java");
        String printed = doc.substring(from, doc.indexOf("```", from + 3));
        Set<String> due = new TreeSet<>();
        Matcher m = Pattern.compile("public (int|long) (\\w+)\\(([^)]*)\\);").matcher(printed);
        while (m.find()) {
            int many = m.group(3).isBlank() ? 0 : m.group(3).split(",").length;
            due.add(m.group(1) + " " + m.group(2) + " " + many);
        }
        must(due.size() == 35, "35 methods are printed: " + due.size());
        Class<?> c = ArchiveOfDeltas.class;
        must(Modifier.isPublic(c.getModifiers()) && Modifier.isFinal(c.getModifiers()), "public and final");
        Set<String> names = new HashSet<>();
        Set<String> has = new TreeSet<>();
        for (Method method : c.getDeclaredMethods()) {
            if (!Modifier.isPrivate(method.getModifiers())) {
                must(Modifier.isPublic(method.getModifiers()), method + " is public");
                has.add(method.getReturnType() + " " + method.getName() + " " + method.getParameterCount());
                names.add(method.getName());
                for (Class<?> type : method.getParameterTypes()) {
                    must(type == int.class, method + " takes int alone");
                }
            }
        }
        must(has.equals(due), "the face is " + due + " and not " + has);
        for (Method method : c.getDeclaredMethods()) {
            must(!Modifier.isPrivate(method.getModifiers()) || !names.contains(method.getName()),
                    "no private method is called " + method.getName());
        }
        for (Field field : c.getDeclaredFields()) {
            must(Modifier.isPrivate(field.getModifiers()), field + " is private");
        }
        Constructor<?>[] makers = c.getDeclaredConstructors();
        must(makers.length == 1 && makers[0].getParameterCount() == 0
                && Modifier.isPublic(makers[0].getModifiers()), "one public constructor without parameters");
    }

    private static void inside(Class<?> top) {
        List<Class<?>> all = new ArrayList<>();
        all.add(top);
        for (Class<?> c : top.getDeclaredClasses()) {
            must(Modifier.isStatic(c.getModifiers()), c + " is static");
            must(!Modifier.isPublic(c.getModifiers()) && !Modifier.isProtected(c.getModifiers()), c + " is not public");
            must(c.getDeclaredClasses().length == 0, c + " has no classes inside");
            all.add(c);
        }
        must(all.size() <= 12, "at most twelve classes: " + all.size());
        for (Class<?> c : all) {
            int fields = 0;
            for (Field field : c.getDeclaredFields()) {
                boolean isStatic = Modifier.isStatic(field.getModifiers());
                must(!isStatic || Modifier.isFinal(field.getModifiers()), field + " is final");
                must(!field.isSynthetic(), field + " is not synthetic");
                fields += isStatic ? 0 : 1;
            }
            must(fields <= 20, c + " has at most twenty fields: " + fields);
            for (Method method : c.getDeclaredMethods()) {
                must(method.getParameterCount() <= 7, method + " takes at most seven parameters");
                must(!method.isSynthetic(), method + " is not synthetic");
                must(!Set.of("equals", "hashCode", "toString").contains(method.getName()), method + " stands");
            }
        }
    }

    private static void text(String source) {
        for (int i = 0; i < source.length(); i++) {
            must(source.charAt(i) < 128, "the sign at " + i + " is plain");
        }
        String bare = source.replaceAll("(?s)/\\*.*?\\*/", "").replaceAll("//[^\n]*", "");
        String code = bare.replaceAll("'(\\\\.|[^'])'", "0").replaceAll("\"[^\"]*\"", "0");
        String words = "throw|throws|try|catch|finally|synchronized|assert|package|import|Object|Exception|System\\.out"
                + "|Random|Thread|currentTimeMillis|nanoTime|var|yield|sealed|permits|volatile|transient|native|protected"
                + "|hashCode|toString|record|Exact|Override";
        Matcher m = Pattern.compile("\\b(" + words + ")\\b|->|::|@|\\w+Exact\\b").matcher(code);
        while (m.find()) {
            must(false, "the text has no " + m.group());
        }
        must(!Pattern.compile("\"\\s*\\+|\\+\\s*\"").matcher(bare).find(), "texts are not joined by +");
        Matcher library = Pattern.compile("\\b([A-Z]\\w*)\\.(\\w+)\\s*\\(").matcher(code);
        Set<String> allowed = Set.of("Math.max", "Math.min", "Integer.bitCount", "System.arraycopy");
        while (library.find()) {
            String call = library.group(1) + "." + library.group(2);
            must(allowed.contains(call), call + " is of the library that the program uses");
        }
        lengths(source);
    }

    private static void lengths(String source) {
        String[] lines = source.split("\n");
        int start = -1;
        for (int i = 0; i < lines.length; i++) {
            if (lines[i].matches("( {4}| {8})[a-zA-Z].*\\) \\{")) {
                start = i;
            } else if (lines[i].matches("( {4}| {8})}") && start >= 0) {
                must(i - start < 60, "the method in line " + (start + 1) + " is short");
                start = -1;
            }
        }
    }
}
