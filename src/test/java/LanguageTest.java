import com.sun.source.tree.AssertTree;
import com.sun.source.tree.BinaryTree;
import com.sun.source.tree.CatchTree;
import com.sun.source.tree.ClassTree;
import com.sun.source.tree.CompilationUnitTree;
import com.sun.source.tree.LambdaExpressionTree;
import com.sun.source.tree.LiteralTree;
import com.sun.source.tree.MemberReferenceTree;
import com.sun.source.tree.MethodInvocationTree;
import com.sun.source.tree.MethodTree;
import com.sun.source.tree.NewClassTree;
import com.sun.source.tree.SynchronizedTree;
import com.sun.source.tree.ThrowTree;
import com.sun.source.tree.Tree;
import com.sun.source.tree.TryTree;
import com.sun.source.tree.VariableTree;
import com.sun.source.util.JavacTask;
import com.sun.source.util.SourcePositions;
import com.sun.source.util.TreePathScanner;
import com.sun.source.util.Trees;
import java.io.IOException;
import java.nio.file.Path;
import java.util.ArrayList;
import java.util.HashMap;
import java.util.LinkedHashMap;
import java.util.LinkedHashSet;
import java.util.List;
import java.util.Map;
import java.util.Set;
import javax.lang.model.element.Element;
import javax.lang.model.element.ElementKind;
import javax.lang.model.element.Modifier;
import javax.tools.JavaCompiler;
import javax.tools.StandardJavaFileManager;
import javax.tools.ToolProvider;

/** What the rules of LANGUAGE.md say that can be read off the source: its limits, its types and its library. */
public final class LanguageTest {
    private static final Path SOURCE = Path.of("src", "main", "java", "LetterRouter.java");
    private static final int MOST_CLASSES = 12;
    private static final int MOST_FIELDS = 20;
    private static final int MOST_PARAMETERS = 7;
    private static final int MOST_LINES = 60;
    private static final int DEEPEST_CALL = 8;

    // Less than the rules allow: what the class has no need of so far is left out of these.
    private static final Set<String> IMPORTS = Set.of("java.util.NoSuchElementException");
    private static final Set<String> EXCEPTIONS = Set.of("IllegalStateException", "IllegalArgumentException",
        "IndexOutOfBoundsException", "ArithmeticException", "UnsupportedOperationException", "NoSuchElementException",
        "RuntimeException");
    private static final Set<String> TYPES = Set.of("int", "long", "char", "boolean", "double", "int[]", "long[]",
        "char[]", "java.lang.String", "java.lang.StringBuilder");
    private static final Set<String> CONSTANTS = Set.of("int", "long", "boolean", "char", "java.lang.String");
    private static final Set<String> LIBRARY = Set.of("String.length", "String.charAt", "StringBuilder.append",
        "StringBuilder.length", "StringBuilder.charAt", "Math.max", "Math.min", "System.arraycopy");

    private static final Check CHECK = new Check();

    private LanguageTest() {
    }

    /** Walks through the source once: looks at each of its parts, and keeps which method calls which. */
    private static final class Reader extends TreePathScanner<Void, Void> {
        private final Trees trees;
        private final SourcePositions positions;
        private final CompilationUnitTree unit;
        private final Map<Element, Set<Element>> calls = new LinkedHashMap<>();
        private Element method = null;
        private int classes = 0;

        Reader(JavacTask task, CompilationUnitTree unit) {
            this.trees = Trees.instance(task);
            this.positions = trees.getSourcePositions();
            this.unit = unit;
        }

        private long line(Tree tree, boolean isEnd) {
            long place = isEnd ? positions.getEndPosition(unit, tree) : positions.getStartPosition(unit, tree);
            return unit.getLineMap().getLineNumber(place);
        }

        private void rule(int number, Tree tree, String what, boolean holds) {
            CHECK.equal("rule " + number + ", line " + line(tree, false) + ": " + what, holds, true);
        }

        private Element elementOf(Tree tree) {
            return trees.getElement(trees.getPath(unit, tree));
        }

        private boolean isOwn(Element element) {
            return element.toString().startsWith("LetterRouter")
                || element.getEnclosingElement() != null && isOwn(element.getEnclosingElement());
        }

        @Override
        public Void visitClass(ClassTree tree, Void none) {
            Element element = elementOf(tree);
            classes++;
            boolean isOutermost = classes == 1;
            rule(2, tree, "a class inside is static", isOutermost || element.getModifiers().contains(Modifier.STATIC));
            int fields = 0;
            for (Element member : element.getEnclosedElements()) {
                boolean isStatic = member.getModifiers().contains(Modifier.STATIC);
                fields += member.getKind() == ElementKind.FIELD && !isStatic ? 1 : 0;
            }
            rule(11, tree, "fields " + fields, fields <= MOST_FIELDS);
            return super.visitClass(tree, none);
        }

        @Override
        public Void visitMethod(MethodTree tree, Void none) {
            Element before = method;
            method = elementOf(tree);
            calls.put(method, new LinkedHashSet<>());
            rule(11, tree, "parameters of " + tree.getName(), tree.getParameters().size() <= MOST_PARAMETERS);
            boolean isMade = positions.getEndPosition(unit, tree) >= 0;
            rule(11, tree, "lines of " + tree.getName(), !isMade || line(tree, true) - line(tree, false) < MOST_LINES);
            super.visitMethod(tree, none);
            method = before;
            return null;
        }

        @Override
        public Void visitVariable(VariableTree tree, Void none) {
            Element element = elementOf(tree);
            String type = element.asType().toString();
            boolean isOwn = type.startsWith("LetterRouter") && !type.endsWith("[][]");
            rule(3, tree, "the type " + type, isOwn || TYPES.contains(type));
            if (element.getModifiers().contains(Modifier.STATIC)) {
                rule(5, tree, "a static field is final", element.getModifiers().contains(Modifier.FINAL));
                rule(5, tree, "the type of a static field " + type, CONSTANTS.contains(type));
            }
            return super.visitVariable(tree, none);
        }

        @Override
        public Void visitMethodInvocation(MethodInvocationTree tree, Void none) {
            Element called = elementOf(tree.getMethodSelect());
            String name = called.getEnclosingElement().getSimpleName() + "." + called.getSimpleName();
            name = name.replace("AbstractStringBuilder", "StringBuilder");
            boolean isConstructor = called.getKind() == ElementKind.CONSTRUCTOR;
            if (isOwn(called)) {
                calls.get(method).add(called);
            } else if (!isConstructor) {
                rule(4, tree, "the call of " + name, LIBRARY.contains(name));
            }
            return super.visitMethodInvocation(tree, none);
        }

        @Override
        public Void visitNewClass(NewClassTree tree, Void none) {
            String name = tree.getIdentifier().toString();
            boolean isKnown = isOwn(elementOf(tree)) || EXCEPTIONS.contains(name) || name.equals("StringBuilder");
            rule(4, tree, "new " + name, isKnown);
            return super.visitNewClass(tree, none);
        }

        @Override
        public Void visitThrow(ThrowTree tree, Void none) {
            boolean isNamed = tree.getExpression() instanceof NewClassTree made
                && EXCEPTIONS.contains(made.getIdentifier().toString())
                && (made.getArguments().isEmpty() || made.getArguments().get(0) instanceof LiteralTree);
            rule(6, tree, "a named exception with a written text", isNamed);
            rule(6, tree, "no throw in a constructor", method.getKind() == ElementKind.METHOD);
            return super.visitThrow(tree, none);
        }

        @Override
        public Void visitTry(TryTree tree, Void none) {
            rule(6, tree, "no finally, no resources", tree.getFinallyBlock() == null && tree.getResources().isEmpty());
            return super.visitTry(tree, none);
        }

        @Override
        public Void visitCatch(CatchTree tree, Void none) {
            rule(6, tree, "nothing is caught, so nothing that the machine throws is", false);
            return super.visitCatch(tree, none);
        }

        @Override
        public Void visitBinary(BinaryTree tree, Void none) {
            boolean isText = tree.getKind() == Tree.Kind.PLUS
                && trees.getTypeMirror(getCurrentPath()).toString().equals("java.lang.String");
            rule(10, tree, "texts are not joined by +", !isText);
            return super.visitBinary(tree, none);
        }

        @Override
        public Void visitLambdaExpression(LambdaExpressionTree tree, Void none) {
            rule(2, tree, "no lambda", false);
            return super.visitLambdaExpression(tree, none);
        }

        @Override
        public Void visitMemberReference(MemberReferenceTree tree, Void none) {
            rule(2, tree, "no method reference", false);
            return super.visitMemberReference(tree, none);
        }

        @Override
        public Void visitSynchronized(SynchronizedTree tree, Void none) {
            rule(6, tree, "no synchronized", false);
            return super.visitSynchronized(tree, none);
        }

        @Override
        public Void visitAssert(AssertTree tree, Void none) {
            rule(6, tree, "no assert", false);
            return super.visitAssert(tree, none);
        }

        /** How deep calls go from a method, or more than the limit if they come back to it. */
        private int depth(Element from, List<Element> open, Map<Element, Integer> known) {
            if (open.contains(from)) {
                CHECK.equal("rule 8: " + from + " calls itself", true, false);
                return DEEPEST_CALL + 1;
            }
            if (!known.containsKey(from)) {
                open.add(from);
                int deepest = 0;
                for (Element called : calls.getOrDefault(from, Set.of())) {
                    deepest = Math.max(deepest, depth(called, open, known));
                }
                open.remove(from);
                known.put(from, deepest + 1);
            }
            return known.get(from);
        }

        private void checkDepths() {
            Map<Element, Integer> known = new HashMap<>();
            for (Element from : calls.keySet()) {
                int depth = depth(from, new ArrayList<>(), known);
                CHECK.equal("rule 11: " + from + " goes " + depth + " deep", depth <= DEEPEST_CALL, true);
            }
        }
    }

    private static void read(JavacTask task) throws IOException {
        CompilationUnitTree unit = task.parse().iterator().next();
        task.analyze();
        CHECK.equal("no package", unit.getPackageName() == null, true);
        CHECK.equal("classes of the file", unit.getTypeDecls().size(), 1);
        unit.getImports().forEach(i ->
            CHECK.equal("rule 4: " + i, IMPORTS.contains(i.getQualifiedIdentifier().toString()), true));
        Reader reader = new Reader(task, unit);
        reader.scan(unit, null);
        CHECK.equal("rule 11: classes " + reader.classes, reader.classes <= MOST_CLASSES, true);
        reader.checkDepths();
    }

    public static void main(String[] args) throws IOException {
        CHECK.at(SOURCE.toString());
        JavaCompiler compiler = ToolProvider.getSystemJavaCompiler();
        try (StandardJavaFileManager files = compiler.getStandardFileManager(null, null, null)) {
            Path source = args.length > 0 ? Path.of(args[0]) : SOURCE;
            read((JavacTask) compiler.getTask(null, files, null, null, null, files.getJavaFileObjects(source)));
        }
        CHECK.finish("LanguageTest");
    }
}
