import com.sun.source.tree.ArrayAccessTree;
import com.sun.source.tree.AssertTree;
import com.sun.source.tree.AssignmentTree;
import com.sun.source.tree.BinaryTree;
import com.sun.source.tree.BlockTree;
import com.sun.source.tree.CatchTree;
import com.sun.source.tree.ClassTree;
import com.sun.source.tree.CompilationUnitTree;
import com.sun.source.tree.CompoundAssignmentTree;
import com.sun.source.tree.ImportTree;
import com.sun.source.tree.LambdaExpressionTree;
import com.sun.source.tree.LineMap;
import com.sun.source.tree.MemberReferenceTree;
import com.sun.source.tree.MethodInvocationTree;
import com.sun.source.tree.MethodTree;
import com.sun.source.tree.NewArrayTree;
import com.sun.source.tree.NewClassTree;
import com.sun.source.tree.SynchronizedTree;
import com.sun.source.tree.ThrowTree;
import com.sun.source.tree.Tree;
import com.sun.source.tree.TryTree;
import com.sun.source.tree.UnaryTree;
import com.sun.source.tree.VariableTree;
import com.sun.source.util.JavacTask;
import com.sun.source.util.SourcePositions;
import com.sun.source.util.TreePath;
import com.sun.source.util.TreePathScanner;
import com.sun.source.util.Trees;
import java.io.IOException;
import java.nio.file.Path;
import java.util.ArrayList;
import java.util.HashMap;
import java.util.HashSet;
import java.util.List;
import java.util.Map;
import java.util.Set;
import java.util.TreeSet;
import javax.lang.model.element.Element;
import javax.lang.model.element.Modifier;
import javax.lang.model.type.TypeMirror;
import javax.tools.JavaCompiler;
import javax.tools.StandardJavaFileManager;
import javax.tools.ToolProvider;

/** The rules of LANGUAGE.md that can be counted: sizes, depth of calls, what is left out of the language. */
public final class LanguageTest {
    private static final Path SOURCE = Path.of("src/main/java/ZoneLedger.java");
    private static final Set<String> LIBRARY = Set.of("java.lang.String.length", "java.lang.String.charAt",
            "java.lang.String.isEmpty", "java.lang.String.equals", "java.lang.String.indexOf",
            "java.lang.String.substring", "java.lang.String.toCharArray", "java.lang.Math.max", "java.lang.Math.min",
            "java.lang.Math.abs", "java.util.Arrays.fill", "java.util.Arrays.copyOf", "java.util.Arrays.copyOfRange",
            "java.lang.System.arraycopy", "java.lang.Object.<init>");
    private static final Set<String> PLAIN_TYPES = Set.of("int", "long", "short", "byte", "char", "boolean", "String");

    private final Checks checks = new Checks();
    private final Map<Element, Set<Element>> calls = new HashMap<>();
    private final Map<Element, String> names = new HashMap<>();
    private final Set<String> madeOutsideConstructors = new TreeSet<>();
    private final Set<String> publicNames = new HashSet<>();
    private final Set<String> privateNames = new HashSet<>();
    private final Set<String> ownClasses = new HashSet<>();
    private final Set<String> typesSeen = new TreeSet<>();
    private final Set<String> constantArrays = new HashSet<>();
    private final Set<String> arraysWritten = new HashSet<>();
    private int classes;

    public static void main(String[] args) throws IOException {
        new LanguageTest().run();
    }

    private void run() throws IOException {
        JavaCompiler compiler = ToolProvider.getSystemJavaCompiler();
        StandardJavaFileManager files = compiler.getStandardFileManager(null, null, null);
        JavacTask task = (JavacTask) compiler.getTask(null, files, null, List.of("-proc:none"), null,
                files.getJavaFileObjects(SOURCE));
        Iterable<? extends CompilationUnitTree> units = task.parse();
        task.analyze();
        for (CompilationUnitTree unit : units) {
            for (ImportTree seen : unit.getImports()) {
                String name = seen.getQualifiedIdentifier().toString();
                checks.holds("import " + name, Set.of("java.util.Arrays", "java.util.NoSuchElementException",
                        "java.util.ArrayList", "java.util.List").contains(name));
            }
            new Walk(Trees.instance(task), unit).scan(unit, null);
        }
        checks.holds("classes: " + classes, classes <= 12);
        for (String name : privateNames) {
            checks.holds("private " + name + " bears no public method's name", !publicNames.contains(name));
        }
        for (String type : typesSeen) {
            String part = type.endsWith("[]") ? type.substring(0, type.length() - 2) : type;
            checks.holds("type " + type, PLAIN_TYPES.contains(part) || ownClasses.contains(part));
        }
        for (String name : constantArrays) {
            checks.holds(name + " is never changed", !arraysWritten.contains(name));
        }
        checks.holds("made outside of constructors: " + madeOutsideConstructors,
                madeOutsideConstructors.equals(Set.of("zone: NoSuchElementException", "prepare: Drive")));
        for (Element method : calls.keySet()) {
            List<String> chain = deepest(method, new HashSet<>());
            checks.holds("calls " + chain.size() + " deep: " + chain, chain.size() <= 8);
        }
        checks.finish();
    }

    private List<String> deepest(Element method, Set<Element> open) {
        List<String> longest = new ArrayList<>();
        if (!open.add(method)) {
            checks.holds("recursion of " + names.get(method), false);
            return longest;
        }
        for (Element called : calls.getOrDefault(method, Set.of())) {
            List<String> chain = deepest(called, open);
            if (chain.size() > longest.size()) {
                longest = chain;
            }
        }
        open.remove(method);
        longest.add(0, names.getOrDefault(method, method.toString()));
        return longest;
    }

    private final class Walk extends TreePathScanner<Void, Void> {
        private final Trees trees;
        private final CompilationUnitTree unit;
        private MethodTree method;
        private Element methodElement;

        Walk(Trees trees, CompilationUnitTree unit) {
            this.trees = trees;
            this.unit = unit;
        }

        private void refuse(Tree tree) {
            LineMap lines = unit.getLineMap();
            long at = trees.getSourcePositions().getStartPosition(unit, tree);
            checks.holds(tree.getKind() + " in line " + lines.getLineNumber(at), false);
        }

        @Override
        public Void visitClass(ClassTree tree, Void v) {
            classes++;
            ownClasses.add(tree.getSimpleName().toString());
            int fields = 0;
            for (Tree member : tree.getMembers()) {
                if (member instanceof VariableTree) {
                    Set<Modifier> modifiers = ((VariableTree) member).getModifiers().getFlags();
                    if (modifiers.contains(Modifier.STATIC)) {
                        checks.holds(member + " is final", modifiers.contains(Modifier.FINAL));
                        constant((VariableTree) member);
                    } else {
                        fields++;
                    }
                }
            }
            checks.holds(tree.getSimpleName() + " has " + fields + " fields", fields <= 20);
            return super.visitClass(tree, v);
        }

        private void constant(VariableTree tree) {
            if (tree.getType().toString().endsWith("[]")) {
                checks.holds(tree.getName() + " is written out", tree.getInitializer() instanceof NewArrayTree
                        && ((NewArrayTree) tree.getInitializer()).getInitializers() != null);
                constantArrays.add(tree.getName().toString());
            } else {
                checks.holds(tree.getName() + " is a number, a sign or a text",
                        PLAIN_TYPES.contains(tree.getType().toString()));
            }
        }

        @Override
        public Void visitVariable(VariableTree tree, Void v) {
            typesSeen.add(tree.getType().toString());
            return super.visitVariable(tree, v);
        }

        private void written(Tree target) {
            if (target instanceof ArrayAccessTree) {
                arraysWritten.add(((ArrayAccessTree) target).getExpression().toString());
            }
        }

        @Override
        public Void visitAssignment(AssignmentTree tree, Void v) {
            written(tree.getVariable());
            return super.visitAssignment(tree, v);
        }

        @Override
        public Void visitCompoundAssignment(CompoundAssignmentTree tree, Void v) {
            written(tree.getVariable());
            return super.visitCompoundAssignment(tree, v);
        }

        @Override
        public Void visitUnary(UnaryTree tree, Void v) {
            written(tree.getExpression());
            return super.visitUnary(tree, v);
        }

        /** Texts are not joined by +, nor held against one another by == or !=. */
        @Override
        public Void visitBinary(BinaryTree tree, Void v) {
            TypeMirror left = trees.getTypeMirror(new TreePath(getCurrentPath(), tree.getLeftOperand()));
            TypeMirror right = trees.getTypeMirror(new TreePath(getCurrentPath(), tree.getRightOperand()));
            if (left.toString().equals("java.lang.String") || right.toString().equals("java.lang.String")) {
                refuse(tree);
            }
            return super.visitBinary(tree, v);
        }

        @Override
        public Void visitBlock(BlockTree tree, Void v) {
            // Outside of a method a block is an initialiser.
            if (method == null) {
                refuse(tree);
            }
            return super.visitBlock(tree, v);
        }

        @Override
        public Void visitMethod(MethodTree tree, Void v) {
            method = tree;
            Set<Modifier> modifiers = tree.getModifiers().getFlags();
            if (modifiers.contains(Modifier.PUBLIC)) {
                publicNames.add(tree.getName().toString());
            } else if (modifiers.contains(Modifier.PRIVATE) && !tree.getName().contentEquals("<init>")) {
                privateNames.add(tree.getName().toString());
            }
            methodElement = trees.getElement(getCurrentPath());
            names.put(methodElement, methodElement.getEnclosingElement().getSimpleName() + "." + tree.getName());
            calls.put(methodElement, new HashSet<>());
            SourcePositions positions = trees.getSourcePositions();
            LineMap lines = unit.getLineMap();
            long first = lines.getLineNumber(Math.max(0, positions.getStartPosition(unit, tree)));
            long last = lines.getLineNumber(Math.max(0, positions.getEndPosition(unit, tree)));
            checks.holds(tree.getName() + " has " + (last - first + 1) + " lines", last - first < 60);
            checks.holds(tree.getName() + " has " + tree.getParameters().size() + " parameters",
                    tree.getParameters().size() <= 7);
            super.visitMethod(tree, v);
            method = null;
            return null;
        }

        @Override
        public Void visitMethodInvocation(MethodInvocationTree tree, Void v) {
            Element called = trees.getElement(getCurrentPath());
            String owner = called.getEnclosingElement().toString();
            if (!owner.startsWith("ZoneLedger")) {
                String name = owner + "." + called.getSimpleName();
                checks.holds(name + " is in the library's list", LIBRARY.contains(name));
            }
            if (method != null) {
                calls.get(methodElement).add(called);
            }
            return super.visitMethodInvocation(tree, v);
        }

        @Override
        public Void visitNewClass(NewClassTree tree, Void v) {
            if (method != null && !method.getName().contentEquals("<init>")) {
                madeOutsideConstructors.add(method.getName() + ": " + tree.getIdentifier());
            }
            return super.visitNewClass(tree, v);
        }

        @Override
        public Void visitNewArray(NewArrayTree tree, Void v) {
            if (method != null && !method.getName().contentEquals("<init>")) {
                refuse(tree);
            }
            return super.visitNewArray(tree, v);
        }

        @Override
        public Void visitThrow(ThrowTree tree, Void v) {
            checks.holds("throw in " + (method == null ? "?" : method.getName()),
                    method != null && method.getName().contentEquals("zone"));
            return super.visitThrow(tree, v);
        }

        @Override
        public Void visitTry(TryTree tree, Void v) {
            refuse(tree);
            return super.visitTry(tree, v);
        }

        @Override
        public Void visitCatch(CatchTree tree, Void v) {
            refuse(tree);
            return super.visitCatch(tree, v);
        }

        @Override
        public Void visitLambdaExpression(LambdaExpressionTree tree, Void v) {
            refuse(tree);
            return super.visitLambdaExpression(tree, v);
        }

        @Override
        public Void visitMemberReference(MemberReferenceTree tree, Void v) {
            refuse(tree);
            return super.visitMemberReference(tree, v);
        }

        @Override
        public Void visitSynchronized(SynchronizedTree tree, Void v) {
            refuse(tree);
            return super.visitSynchronized(tree, v);
        }

        @Override
        public Void visitAssert(AssertTree tree, Void v) {
            refuse(tree);
            return super.visitAssert(tree, v);
        }
    }
}
