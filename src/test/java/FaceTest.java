import java.lang.reflect.Constructor;
import java.lang.reflect.Field;
import java.lang.reflect.Method;
import java.lang.reflect.Modifier;
import java.nio.file.Files;
import java.nio.file.Path;
import java.util.ArrayList;
import java.util.HashSet;
import java.util.List;
import java.util.Set;
import java.util.TreeSet;
import java.util.regex.Matcher;
import java.util.regex.Pattern;

/** The face as the document prints it, and nothing beside it (rule 1 of LANGUAGE.md). */
public final class FaceTest {
    private static int wrong = 0;

    private static void must(boolean holds, String what) {
        if (!holds) {
            wrong++;
            System.out.println("not so: " + what);
        }
    }

    public static void main(String[] args) throws Exception {
        Path shared = Path.of(System.getProperty("shared.root", "../shared"));
        String doc = Files.readString(shared.resolve("DOC.md"));
        face(doc);
        System.out.println(wrong == 0 ? "the face is as due" : wrong + " things are not so");
        if (wrong != 0) {
            System.exit(1);
        }
    }

    private static void face(String doc) {
        int from = doc.indexOf("```java");
        String printed = doc.substring(from, doc.indexOf("```", from + 3));
        Set<String> due = new TreeSet<>();
        Matcher m = Pattern.compile("public (int|long) (\\w+)\\(([^)]*)\\);").matcher(printed);
        while (m.find()) {
            int many = m.group(3).isBlank() ? 0 : m.group(3).split(",").length;
            due.add(m.group(1) + " " + m.group(2) + " " + many);
        }
        must(due.size() == 35, "35 methods are printed: " + due.size());
        Class<?> c = ArchiveOfDeltas.class;
        must(Modifier.isPublic(c.getModifiers()) && Modifier.isFinal(c.getModifiers()), "public and final");
        Set<String> names = new HashSet<>();
        Set<String> has = new TreeSet<>();
        for (Method method : c.getDeclaredMethods()) {
            if (!Modifier.isPrivate(method.getModifiers())) {
                must(Modifier.isPublic(method.getModifiers()), method + " is public");
                has.add(method.getReturnType() + " " + method.getName() + " " + method.getParameterCount());
                names.add(method.getName());
                for (Class<?> type : method.getParameterTypes()) {
                    must(type == int.class, method + " takes int alone");
                }
            }
        }
        must(has.equals(due), "the face is " + due + " and not " + has);
        List<Class<?>> all = new ArrayList<>(List.of(c.getDeclaredClasses()));
        all.add(c);
        for (Class<?> each : all) {
            for (Method method : each.getDeclaredMethods()) {
                must(!Modifier.isPrivate(method.getModifiers()) || !names.contains(method.getName()),
                        "no private method is called " + method.getName());
                must(!method.isSynthetic(), method + " is written");
            }
        }
        for (Field field : c.getDeclaredFields()) {
            must(Modifier.isPrivate(field.getModifiers()), field + " is private");
        }
        Constructor<?>[] makers = c.getDeclaredConstructors();
        must(makers.length == 1 && makers[0].getParameterCount() == 0
                && Modifier.isPublic(makers[0].getModifiers()), "one public constructor without parameters");
    }
}
