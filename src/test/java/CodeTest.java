import com.sun.source.tree.AssertTree;
import com.sun.source.tree.ClassTree;
import com.sun.source.tree.CompilationUnitTree;
import com.sun.source.tree.LambdaExpressionTree;
import com.sun.source.tree.LineMap;
import com.sun.source.tree.MemberReferenceTree;
import com.sun.source.tree.MethodInvocationTree;
import com.sun.source.tree.MethodTree;
import com.sun.source.tree.NewArrayTree;
import com.sun.source.tree.NewClassTree;
import com.sun.source.tree.SynchronizedTree;
import com.sun.source.tree.ThrowTree;
import com.sun.source.tree.Tree;
import com.sun.source.tree.TryTree;
import com.sun.source.tree.TypeCastTree;
import com.sun.source.tree.VariableTree;
import com.sun.source.util.JavacTask;
import com.sun.source.util.TreePath;
import com.sun.source.util.TreePathScanner;
import com.sun.source.util.Trees;
import java.io.IOException;
import java.nio.file.Path;
import java.util.HashMap;
import java.util.HashSet;
import java.util.List;
import java.util.Map;
import java.util.Set;
import javax.lang.model.element.Element;
import javax.lang.model.element.ElementKind;
import javax.lang.model.element.Modifier;
import javax.tools.JavaCompiler;
import javax.tools.StandardJavaFileManager;
import javax.tools.ToolProvider;

/** What ../shared/LANGUAGE.md says of the code, as the compiler reads it. It is run in the project's folder. */
public final class CodeTest {
    private static final int DEEPEST = 8;
    private static final int MOST_LINES = 60;
    private static final int MOST_CLASSES = 12;
    private static final int MOST_FIELDS = 20;
    private static final int MOST_PARAMETERS = 7;
    private static final Set<String> LIBRARY = Set.of("System.arraycopy", "Arrays.fill", "Math.abs", "Math.max",
        "Math.min", "Math.floorMod", "Integer.bitCount");

    public static void main(String[] args) throws IOException {
        Due.promise(0);
        JavaCompiler compiler = ToolProvider.getSystemJavaCompiler();
        try (StandardJavaFileManager files = compiler.getStandardFileManager(null, null, null)) {
            JavacTask task = (JavacTask) compiler.getTask(null, files, null, List.of("-proc:none"), null,
                files.getJavaFileObjects(Path.of("src/main/java/SlideFold.java")));
            CompilationUnitTree unit = task.parse().iterator().next();
            task.analyze();
            Reader reader = new Reader(Trees.instance(task), unit);
            reader.scan(unit, null);
            reader.end();
        }
        Due.end("CodeTest");
    }

    private static final class Reader extends TreePathScanner<Void, Void> {
        private final Trees trees;
        private final CompilationUnitTree unit;
        private final LineMap lines;
        /** What each method calls: those of the file, and how often the library's. */
        private final Map<Element, Set<Element>> calls = new HashMap<>();
        private final Set<Element> ofLibrary = new HashSet<>();
        private Element method = null;
        private int classes = 0;

        Reader(Trees trees, CompilationUnitTree unit) {
            this.trees = trees;
            this.unit = unit;
            lines = unit.getLineMap();
        }

        private void rule(String rule, Tree tree, boolean kept) {
            long line = lines.getLineNumber(trees.getSourcePositions().getStartPosition(unit, tree));
            Due.is("rule " + rule + " at line " + line, kept, true);
        }

        private Element element() {
            return trees.getElement(getCurrentPath());
        }

        void end() {
            Due.is("rule 11: some twelve classes", classes <= MOST_CLASSES + 1, true);
            for (Element each : calls.keySet()) {
                int depth = depth(each, 0);
                Due.is("rule 11: " + each + " goes " + depth + " calls deep", depth <= DEEPEST, true);
            }
        }

        /** A call that calls itself, by others too, has no depth: it goes beyond the bound. */
        private int depth(Element each, int open) {
            if (open > DEEPEST) {
                return DEEPEST;
            }
            int deepest = ofLibrary.contains(each) ? 1 : 0;
            for (Element called : calls.getOrDefault(each, Set.of())) {
                deepest = Math.max(deepest, depth(called, open + 1));
            }
            return 1 + deepest;
        }

        @Override
        public Void visitClass(ClassTree tree, Void none) {
            classes++;
            Element type = element();
            boolean outer = type.getEnclosingElement().getKind() == ElementKind.PACKAGE;
            rule("2: a class inside is static", tree, outer || type.getModifiers().contains(Modifier.STATIC));
            rule("2: a class has a name", tree, tree.getSimpleName().length() > 0);
            int fields = 0;
            for (Tree member : tree.getMembers()) {
                rule("5: no block by itself", member, member.getKind() != Tree.Kind.BLOCK);
                if (member instanceof VariableTree) {
                    Set<Modifier> how = ((VariableTree) member).getModifiers().getFlags();
                    boolean isStatic = how.contains(Modifier.STATIC);
                    rule("5: a static field is final", member, !isStatic || how.contains(Modifier.FINAL));
                    fields += isStatic ? 0 : 1;
                }
            }
            rule("11: some twenty fields", tree, fields <= MOST_FIELDS);
            return super.visitClass(tree, none);
        }

        @Override
        public Void visitMethod(MethodTree tree, Void none) {
            Element before = method;
            method = element();
            calls.putIfAbsent(method, new HashSet<>());
            long first = lines.getLineNumber(trees.getSourcePositions().getStartPosition(unit, tree));
            long last = lines.getLineNumber(trees.getSourcePositions().getEndPosition(unit, tree));
            rule("11: some sixty lines", tree, last - first < MOST_LINES);
            rule("11: seven parameters", tree, tree.getParameters().size() <= MOST_PARAMETERS);
            rule("6: throws nothing", tree, tree.getThrows().isEmpty());
            super.visitMethod(tree, none);
            method = before;
            return null;
        }

        @Override
        public Void visitMethodInvocation(MethodInvocationTree tree, Void none) {
            Element called = element();
            Element owner = called.getEnclosingElement();
            boolean own = trees.getPath(owner) != null;
            if (own) {
                calls.computeIfAbsent(method, m -> new HashSet<>()).add(called);
            } else if (called.getKind() != ElementKind.CONSTRUCTOR) {
                ofLibrary.add(method);
                String name = owner.getSimpleName() + "." + called.getSimpleName();
                rule("4: " + name, tree, LIBRARY.contains(name));
            }
            return super.visitMethodInvocation(tree, none);
        }

        @Override
        public Void visitNewClass(NewClassTree tree, Void none) {
            rule("12: here all is made in constructors", tree, isConstructor());
            rule("2: no anonymous class", tree, tree.getClassBody() == null);
            for (Tree argument : tree.getArguments()) {
                Element given = trees.getElement(TreePath.getPath(unit, argument));
                rule("12: a constructor hands out nothing of its object", argument,
                    given == null || given.getKind() != ElementKind.FIELD || given.getModifiers().contains(
                        Modifier.STATIC));
            }
            calls.computeIfAbsent(method, m -> new HashSet<>()).add(element());
            return super.visitNewClass(tree, none);
        }

        @Override
        public Void visitNewArray(NewArrayTree tree, Void none) {
            rule("12: here all is made in constructors", tree, method == null || isConstructor());
            return super.visitNewArray(tree, none);
        }

        private boolean isConstructor() {
            return method != null && method.getKind() == ElementKind.CONSTRUCTOR;
        }

        private Void never(String rule, Tree tree) {
            rule(rule, tree, false);
            return null;
        }

        @Override
        public Void visitLambdaExpression(LambdaExpressionTree tree, Void none) {
            return never("2: no lambda", tree);
        }

        @Override
        public Void visitMemberReference(MemberReferenceTree tree, Void none) {
            return never("2: no method reference", tree);
        }

        @Override
        public Void visitThrow(ThrowTree tree, Void none) {
            return never("6: no throw", tree);
        }

        @Override
        public Void visitTry(TryTree tree, Void none) {
            return never("6: no try", tree);
        }

        @Override
        public Void visitSynchronized(SynchronizedTree tree, Void none) {
            return never("6: no synchronized", tree);
        }

        @Override
        public Void visitAssert(AssertTree tree, Void none) {
            return never("6: no assert", tree);
        }

        @Override
        public Void visitTypeCast(TypeCastTree tree, Void none) {
            return never("6: no cast is needed here", tree);
        }
    }
}
