import com.sun.source.tree.*;
import com.sun.source.util.JavacTask;
import com.sun.source.util.TreePathScanner;
import com.sun.source.util.Trees;
import java.net.URI;
import java.nio.file.Files;
import java.nio.file.Path;
import java.util.HashMap;
import java.util.HashSet;
import java.util.LinkedHashSet;
import java.util.List;
import java.util.Map;
import java.util.Set;
import javax.lang.model.element.Element;
import javax.lang.model.element.ElementKind;
import javax.lang.model.element.ExecutableElement;
import javax.lang.model.element.Modifier;
import javax.lang.model.element.TypeElement;
import javax.lang.model.element.VariableElement;
import javax.lang.model.type.ArrayType;
import javax.lang.model.type.TypeKind;
import javax.lang.model.type.TypeMirror;
import javax.tools.JavaCompiler;
import javax.tools.JavaFileObject;
import javax.tools.SimpleJavaFileObject;
import javax.tools.ToolProvider;

/** Rules 2 to 13 of LANGUAGE.md, looked up in the class as the compiler understands it; kept narrower where it can be. */
public final class LanguageTest {
    /** Of the library that rule 4 lists, what the class uses; a new name is put here only if rule 4 has it. */
    private static final Set<String> LIBRARY = Set.of("Math.max", "Math.min", "Integer.bitCount", "System.arraycopy",
            "String.length", "String.charAt", "String.isEmpty");
    private static final Set<String> TYPES = Set.of("int", "long", "boolean", "char", "void", "java.lang.String");
    private static final int DEEPEST = 8;

    /** Classes that break a rule each, to see that the looking finds it: the rule's number, members of the class. */
    private static final String[][] BROKEN = {
        {"2", "final class Inner { }"},
        {"2", "int f() { Comparable<Integer> c = x -> 0; return 1; }"},
        {"2", "int f() { class Local { } return 1; }"},
        {"3", "private float part;"},
        {"3", "private Object any;"},
        {"3", "int f() { java.util.Map<Integer, Integer> m = null; return 1; }"},
        {"4", "int f() { return Integer.MAX_VALUE; }"},
        {"4", "int f() { return Math.addExact(1, 2); }"},
        {"4", "int f() { return \"a\".hashCode(); }"},
        {"4", "int f() { System.out.println(); return 1; }"},
        {"4", "private static final String OVER = \"\\u00e9\";"},
        {"5", "private static int state;"},
        {"5", "static { int i = 0; }"},
        {"5", "private static final String[] NAMES = {\"a\"};"},
        {"6", "int f() { throw new IllegalStateException(); }"},
        {"6", "int f() { try { return 1; } finally { } }"},
        {"6", "int f() { assert true; return 1; }"},
        {"6", "boolean f(String a, String b) { return a == b; }"},
        {"6", "public String toString() { return \"\"; }"},
        {"8", "int f(int i) { return i == 0 ? 0 : g(i - 1); } int g(int i) { return f(i); }"},
        {"9", "int f() { for (int i = 0; ; i++) { if (i > 3) { return i; } } }"},
        {"9", "int f() { while (true) { return 1; } }"},
        {"10", "String f(String a) { return a + 1; }"},
        {"10", "String f(String a) { a += \"b\"; return a; }"},
        {"11", "int f(int a, int b, int c, int d, int e, int g, int h, int i) { return 1; }"},
        {"11", "int a() { return b(); } int b() { return c(); } int c() { return d(); } int d() { return e(); }"
                + "int e() { return f(); } int f() { return g(); } int g() { return h(); } int h() { return i(); }"
                + "int i() { return 1; }"},
        {"11", "int f() {" + "\n".repeat(60) + "return 1; }"},
        {"12", "int f() { int[] made = new int[3]; return made.length; }"},
        {"13", "int f() { return (int) System.nanoTime(); }"},
    };

    private final Set<String> broken = new LinkedHashSet<>();
    private final Map<Element, Set<Element>> calls = new HashMap<>();

    public static void main(String[] args) throws Exception {
        Path root = Path.of(System.getProperty("project.root", "."));
        String source = Files.readString(root.resolve("src/main/java/ArchiveOfDeltas.java"));
        LanguageTest all = new LanguageTest();
        all.look(source);
        all.broken.forEach(System.out::println);
        int unseen = 0;
        for (String[] one : BROKEN) {
            LanguageTest other = new LanguageTest();
            other.look("public final class ArchiveOfDeltas { " + one[1] + " }");
            if (other.broken.stream().noneMatch(text -> text.startsWith("rule " + one[0] + ":"))) {
                unseen++;
                System.out.println("not seen to break rule " + one[0] + ": " + one[1]);
            }
        }
        System.out.println(all.broken.size() + " places break rules 2 to 13; of " + BROKEN.length + " made to break one, "
                + unseen + " are not seen");
        System.exit(all.broken.isEmpty() && unseen == 0 ? 0 : 1);
    }

    private void must(boolean holds, int rule, Object what) {
        if (!holds) {
            broken.add("rule " + rule + ": " + what.toString().lines().findFirst().orElse(""));
        }
    }

    private void look(String source) throws Exception {
        JavaCompiler compiler = ToolProvider.getSystemJavaCompiler();
        URI name = URI.create("string:///ArchiveOfDeltas.java");
        JavaFileObject file = new SimpleJavaFileObject(name, JavaFileObject.Kind.SOURCE) {
            @Override
            public CharSequence getCharContent(boolean ignored) {
                return source;
            }
        };
        List<String> options = List.of("--release", "17", "-proc:none");
        JavacTask task = (JavacTask) compiler.getTask(null, null, null, options, null, List.of(file));
        CompilationUnitTree unit = task.parse().iterator().next();
        task.analyze();
        must(unit.getImports().isEmpty() && unit.getPackageName() == null && unit.getTypeDecls().size() == 1, 1,
                "one class, no package, no import");
        must(source.chars().allMatch(sign -> sign < 128), 4, "plain signs alone");
        new Looker(Trees.instance(task), unit).scan(unit, null);
        for (Element method : calls.keySet()) {
            depth(method, new HashSet<>());
        }
        must(ownClasses <= 12, 11, "at most twelve classes");
    }

    private int ownClasses = 0;

    /** How many calls stand open at once from a method on; a method that comes again is a recursion. */
    private int depth(Element method, Set<Element> open) {
        if (!open.add(method)) {
            must(false, 8, method + " calls itself");
            return 0;
        }
        int deepest = 0;
        for (Element called : calls.getOrDefault(method, Set.of())) {
            deepest = Math.max(deepest, depth(called, open));
        }
        open.remove(method);
        must(deepest < DEEPEST, 11, "calls from " + method + " go " + (deepest + 1) + " deep");
        return deepest + 1;
    }

    private final class Looker extends TreePathScanner<Void, Void> {
        private final Trees trees;
        private final CompilationUnitTree unit;
        private ExecutableElement inside = null;

        Looker(Trees trees, CompilationUnitTree unit) {
            this.trees = trees;
            this.unit = unit;
        }

        private Element here() {
            return trees.getElement(getCurrentPath());
        }

        private TypeMirror typeOf(Tree tree) {
            return trees.getTypeMirror(trees.getPath(unit, tree));
        }

        private boolean isOwn(Element element) {
            for (Element e = element; e != null; e = e.getEnclosingElement()) {
                if (e.getSimpleName().contentEquals("ArchiveOfDeltas")) {
                    return true;
                }
            }
            return false;
        }

        private boolean isText(Tree tree) {
            return typeOf(tree) != null && typeOf(tree).toString().equals("java.lang.String");
        }

        private void typed(TypeMirror type, Object where) {
            TypeMirror item = type;
            if (type.getKind() == TypeKind.ARRAY) {
                item = ((ArrayType) type).getComponentType();
                must(item.getKind() != TypeKind.ARRAY, 3, "arrays of one dimension: " + where);
            }
            boolean isKnown = TYPES.contains(item.toString()) || item.toString().startsWith("ArchiveOfDeltas");
            must(isKnown, 3, item + " in " + where);
        }

        @Override
        public Void visitClass(ClassTree tree, Void p) {
            TypeElement type = (TypeElement) here();
            ownClasses++;
            if (type.getEnclosingElement().getKind() != ElementKind.PACKAGE) {
                must(type.getModifiers().contains(Modifier.STATIC), 2, type + " is static");
                must(!type.getModifiers().contains(Modifier.PUBLIC) && !type.getModifiers().contains(Modifier.PROTECTED), 2,
                        type + " is not seen outside");
                must(type.getKind() == ElementKind.CLASS && type.getModifiers().contains(Modifier.FINAL)
                        && type.getSuperclass().toString().equals("java.lang.Object") && type.getInterfaces().isEmpty(), 2,
                        type + " is a plain final class");
            }
            int fields = 0;
            for (Tree member : tree.getMembers()) {
                must(member.getKind() != Tree.Kind.BLOCK, 5, "no block in " + type);
                if (member instanceof VariableTree field) {
                    boolean isStatic = field.getModifiers().getFlags().contains(Modifier.STATIC);
                    fields += isStatic ? 0 : 1;
                    if (isStatic) {
                        VariableElement constant = (VariableElement) trees.getElement(trees.getPath(unit, field));
                        must(constant.getConstantValue() != null, 5, field + " is a constant");
                    }
                }
            }
            must(fields <= 20, 11, type + " has at most twenty fields");
            return super.visitClass(tree, p);
        }

        @Override
        public Void visitMethod(MethodTree tree, Void p) {
            ExecutableElement outer = inside;
            inside = (ExecutableElement) here();
            calls.putIfAbsent(inside, new LinkedHashSet<>());
            must(tree.getParameters().size() <= 7, 11, inside + " takes at most seven parameters");
            must(!Set.of("equals", "hashCode", "toString").contains(tree.getName().toString()), 6, inside + " stands");
            must(!inside.getModifiers().contains(Modifier.NATIVE) && !inside.getModifiers().contains(Modifier.SYNCHRONIZED)
                    && tree.getThrows().isEmpty() && tree.getTypeParameters().isEmpty(), 6, inside + " is plain");
            long start = trees.getSourcePositions().getStartPosition(unit, tree);
            long end = trees.getSourcePositions().getEndPosition(unit, tree);
            long lines = unit.getLineMap().getLineNumber(end) - unit.getLineMap().getLineNumber(start) + 1;
            must(lines <= 60, 11, inside + " has " + lines + " lines");
            typed(inside.getReturnType(), inside);
            super.visitMethod(tree, p);
            inside = outer;
            return null;
        }

        @Override
        public Void visitVariable(VariableTree tree, Void p) {
            typed(here().asType(), tree);
            return super.visitVariable(tree, p);
        }

        @Override
        public Void visitIdentifier(IdentifierTree tree, Void p) {
            used(here(), tree);
            return super.visitIdentifier(tree, p);
        }

        @Override
        public Void visitMemberSelect(MemberSelectTree tree, Void p) {
            used(here(), tree);
            return super.visitMemberSelect(tree, p);
        }

        private void used(Element element, Tree tree) {
            if (element == null || element.getKind() == ElementKind.PACKAGE || element.getKind() == ElementKind.MODULE) {
                return;
            }
            boolean isMember = element.getKind().isField() || element instanceof ExecutableElement;
            if (!isMember || isOwn(element)) {
                if (element instanceof ExecutableElement && inside != null) {
                    calls.get(inside).add(element);
                }
                return;
            }
            String owner = element.getEnclosingElement().getSimpleName().toString();
            boolean isConstructor = element.getKind() == ElementKind.CONSTRUCTOR;
            boolean isLength = owner.equals("Array") && element.getSimpleName().contentEquals("length");
            if (!isConstructor && !isLength) {
                String name = owner + "." + element.getSimpleName();
                must(LIBRARY.contains(name), 4, name + " in " + inside);
                must(!name.matches(".*([Tt]ime|[Rr]andom|Thread|getenv|getProperty).*"), 13, name + " in " + inside);
            }
        }

        @Override
        public Void visitNewClass(NewClassTree tree, Void p) {
            must(tree.getClassBody() == null, 2, "no class without a name: " + tree);
            must(isOwn(here()), 4, tree);
            if (inside != null && here() != null) {
                calls.get(inside).add(here());
            }
            made(tree);
            return super.visitNewClass(tree, p);
        }

        @Override
        public Void visitNewArray(NewArrayTree tree, Void p) {
            made(tree);
            return super.visitNewArray(tree, p);
        }

        private void made(Tree tree) {
            must(inside != null && inside.getKind() == ElementKind.CONSTRUCTOR, 12, "made in constructors alone: " + tree);
        }

        @Override
        public Void visitLiteral(LiteralTree tree, Void p) {
            if (tree.getValue() instanceof String text) {
                must(text.chars().allMatch(sign -> sign >= 1 && sign < 128), 4, "signs of " + tree);
            }
            return super.visitLiteral(tree, p);
        }

        @Override
        public Void visitBinary(BinaryTree tree, Void p) {
            boolean isText = isText(tree.getLeftOperand()) || isText(tree.getRightOperand());
            must(!isText || tree.getKind() != Tree.Kind.PLUS, 10, "texts joined: " + tree);
            boolean isCompared = tree.getKind() == Tree.Kind.EQUAL_TO || tree.getKind() == Tree.Kind.NOT_EQUAL_TO;
            must(!isText || !isCompared, 6, "texts compared: " + tree);
            return super.visitBinary(tree, p);
        }

        @Override
        public Void visitCompoundAssignment(CompoundAssignmentTree tree, Void p) {
            must(!isText(tree.getVariable()), 10, "texts joined: " + tree);
            return super.visitCompoundAssignment(tree, p);
        }

        private boolean isBound(ExpressionTree condition) {
            return condition != null && !condition.toString().matches("\\(?true\\)?");
        }

        @Override
        public Void visitForLoop(ForLoopTree tree, Void p) {
            must(isBound(tree.getCondition()) && !tree.getUpdate().isEmpty(), 9, tree);
            return super.visitForLoop(tree, p);
        }

        @Override
        public Void visitWhileLoop(WhileLoopTree tree, Void p) {
            must(isBound(tree.getCondition()), 9, tree);
            return super.visitWhileLoop(tree, p);
        }

        @Override
        public Void visitDoWhileLoop(DoWhileLoopTree tree, Void p) {
            must(isBound(tree.getCondition()), 9, tree);
            return super.visitDoWhileLoop(tree, p);
        }

        @Override
        public Void visitThrow(ThrowTree tree, Void p) {
            must(false, 6, tree);
            return super.visitThrow(tree, p);
        }

        @Override
        public Void visitTry(TryTree tree, Void p) {
            must(false, 6, tree);
            return super.visitTry(tree, p);
        }

        @Override
        public Void visitAssert(AssertTree tree, Void p) {
            must(false, 6, tree);
            return super.visitAssert(tree, p);
        }

        @Override
        public Void visitSynchronized(SynchronizedTree tree, Void p) {
            must(false, 6, tree);
            return super.visitSynchronized(tree, p);
        }

        @Override
        public Void visitInstanceOf(InstanceOfTree tree, Void p) {
            must(tree.getPattern() == null, 6, tree);
            return super.visitInstanceOf(tree, p);
        }

        @Override
        public Void visitLambdaExpression(LambdaExpressionTree tree, Void p) {
            must(false, 2, tree);
            return super.visitLambdaExpression(tree, p);
        }

        @Override
        public Void visitMemberReference(MemberReferenceTree tree, Void p) {
            must(false, 2, tree);
            return super.visitMemberReference(tree, p);
        }

        @Override
        public Void visitAnnotation(AnnotationTree tree, Void p) {
            must(false, 4, tree);
            return super.visitAnnotation(tree, p);
        }
    }
}
