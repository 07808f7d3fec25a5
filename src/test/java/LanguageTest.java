import com.sun.source.tree.AssertTree;
import com.sun.source.tree.BinaryTree;
import com.sun.source.tree.CatchTree;
import com.sun.source.tree.ClassTree;
import com.sun.source.tree.CompilationUnitTree;
import com.sun.source.tree.InstanceOfTree;
import com.sun.source.tree.LambdaExpressionTree;
import com.sun.source.tree.LiteralTree;
import com.sun.source.tree.MemberReferenceTree;
import com.sun.source.tree.MethodInvocationTree;
import com.sun.source.tree.MethodTree;
import com.sun.source.tree.NewArrayTree;
import com.sun.source.tree.NewClassTree;
import com.sun.source.tree.SynchronizedTree;
import com.sun.source.tree.ThrowTree;
import com.sun.source.tree.Tree;
import com.sun.source.tree.TryTree;
import com.sun.source.tree.VariableTree;
import com.sun.source.util.JavacTask;
import com.sun.source.util.TreePath;
import com.sun.source.util.TreePathScanner;
import com.sun.source.util.Trees;
import java.io.File;
import java.io.IOException;
import java.util.ArrayList;
import java.util.HashMap;
import java.util.HashSet;
import java.util.List;
import java.util.Map;
import java.util.Set;
import java.util.TreeMap;
import java.util.TreeSet;
import javax.lang.model.element.Element;
import javax.lang.model.element.ElementKind;
import javax.lang.model.element.ExecutableElement;
import javax.lang.model.element.Modifier;
import javax.lang.model.element.TypeElement;
import javax.lang.model.type.TypeKind;
import javax.tools.JavaCompiler;
import javax.tools.StandardJavaFileManager;
import javax.tools.ToolProvider;

/** The rules of ../shared/LANGUAGE.md that can be read off the source: what stands there, how long, how deep. */
public final class LanguageTest {
    private static final String SOURCE = "src/main/java/RingedLights.java";
    private static final Set<String> LIBRARY = Set.of("String.length", "String.charAt", "Math.min", "Math.max",
            "Math.floorMod", "System.arraycopy", "Object.<init>");
    private static final int MOST_LINES = 60;
    private static final int MOST_PARAMETERS = 7;
    private static final int MOST_DEPTH = 8;
    private static final int MOST_CLASSES = 12;
    private static final int MOST_FIELDS = 20;

    private LanguageTest() {
    }

    public static void main(String[] args) throws IOException {
        JavaCompiler compiler = ToolProvider.getSystemJavaCompiler();
        StandardJavaFileManager files = compiler.getStandardFileManager(null, null, null);
        JavacTask task = (JavacTask) compiler.getTask(null, files, null, List.of("-proc:none"), null,
                files.getJavaFileObjects(new File(SOURCE)));
        CompilationUnitTree unit = task.parse().iterator().next();
        task.analyze();
        Reader reader = new Reader(unit, Trees.instance(task));
        reader.scan(unit, null);
        reader.checkNames();
        reader.checkDepth();
        Check.due("imports", unit.getImports().size(), 0);
        Check.due("classes at the top", unit.getTypeDecls().size(), 1);
        Check.due("classes inside, at most " + MOST_CLASSES, reader.classes - 1 <= MOST_CLASSES, true);
        System.out.println("the deepest calls: " + reader.deepest + ": " + reader.deepestChain);
        Check.end();
    }

    /** Goes through the tree once, tells what is against the rules, and gathers who calls whom. */
    private static final class Reader extends TreePathScanner<Void, Void> {
        final CompilationUnitTree unit;
        final Trees trees;
        final Map<ExecutableElement, Set<ExecutableElement>> calls = new HashMap<>();
        final Set<String> publicNames = new TreeSet<>();
        final List<String> otherNames = new ArrayList<>();
        final Map<ExecutableElement, Integer> depths = new HashMap<>();
        int classes;
        int deepest;
        String deepestChain = "";

        Reader(CompilationUnitTree unit, Trees trees) {
            this.unit = unit;
            this.trees = trees;
        }

        void against(String rule, Tree tree) {
            long line = unit.getLineMap().getLineNumber(trees.getSourcePositions().getStartPosition(unit, tree));
            Check.due("line " + line + ": " + rule, true, false);
        }

        Element element(Tree tree) {
            return trees.getElement(TreePath.getPath(getCurrentPath(), tree));
        }

        ExecutableElement method() {
            for (TreePath path = getCurrentPath(); path != null; path = path.getParentPath()) {
                if (path.getLeaf() instanceof MethodTree) {
                    return (ExecutableElement) trees.getElement(path);
                }
            }
            return null;
        }

        @Override
        public Void visitClass(ClassTree tree, Void none) {
            classes++;
            Set<Modifier> flags = tree.getModifiers().getFlags();
            boolean inside = classes > 1;
            Tree.Kind above = getCurrentPath().getParentPath().getLeaf().getKind();
            if (inside && (above != Tree.Kind.CLASS || !flags.contains(Modifier.STATIC))) {
                against("rule 2: a class inside is static", tree);
            }
            if (inside && (flags.contains(Modifier.PUBLIC) || flags.contains(Modifier.PROTECTED))) {
                against("rule 1: a class inside is private or package-visible", tree);
            }
            long fields = tree.getMembers().stream()
                    .filter(member -> member instanceof VariableTree
                            && !((VariableTree) member).getModifiers().getFlags().contains(Modifier.STATIC))
                    .count();
            Check.due("fields of " + tree.getSimpleName() + ", at most " + MOST_FIELDS, fields <= MOST_FIELDS, true);
            for (Tree member : tree.getMembers()) {
                if (member.getKind() == Tree.Kind.BLOCK) {
                    against("rule 5: no initialiser block", member);
                }
            }
            return super.visitClass(tree, none);
        }

        @Override
        public Void visitMethod(MethodTree tree, Void none) {
            ExecutableElement method = (ExecutableElement) trees.getElement(getCurrentPath());
            calls.putIfAbsent(method, new HashSet<>());
            long first = trees.getSourcePositions().getStartPosition(unit, tree);
            long last = trees.getSourcePositions().getEndPosition(unit, tree);
            if (last > first && unit.getLineMap().getLineNumber(last) - unit.getLineMap().getLineNumber(first) >= MOST_LINES) {
                against("rule 11: at most " + MOST_LINES + " lines", tree);
            }
            if (tree.getParameters().size() > MOST_PARAMETERS) {
                against("rule 11: at most " + MOST_PARAMETERS + " parameters", tree);
            }
            Set<Modifier> flags = tree.getModifiers().getFlags();
            String name = tree.getName().toString();
            if (flags.contains(Modifier.PUBLIC)) {
                publicNames.add(name);
            } else if (!name.equals("<init>")) {
                otherNames.add(name);
                if (isOuter(method.getEnclosingElement()) && !flags.contains(Modifier.PRIVATE)) {
                    against("rule 1: private", tree);
                }
            }
            return super.visitMethod(tree, none);
        }

        boolean isOuter(Element type) {
            return !(type.getEnclosingElement() instanceof TypeElement);
        }

        @Override
        public Void visitVariable(VariableTree tree, Void none) {
            Element variable = trees.getElement(getCurrentPath());
            Set<Modifier> flags = tree.getModifiers().getFlags();
            if (variable != null && variable.getKind() == ElementKind.FIELD) {
                if (flags.contains(Modifier.STATIC) && !flags.contains(Modifier.FINAL)) {
                    against("rule 5: a static field is final", tree);
                }
                if (isOuter(variable.getEnclosingElement()) && !flags.contains(Modifier.PRIVATE)
                        && !tree.getName().contentEquals("NONE")) {
                    against("rule 1: private", tree);
                }
            }
            if (variable != null && variable.asType().getKind() == TypeKind.ARRAY
                    && !variable.asType().toString().matches("(int|byte)\\[\\]")) {
                against("rule 3: an array of numbers here", tree);
            }
            return super.visitVariable(tree, none);
        }

        @Override
        public Void visitMethodInvocation(MethodInvocationTree tree, Void none) {
            called((ExecutableElement) trees.getElement(getCurrentPath()), tree);
            return super.visitMethodInvocation(tree, none);
        }

        @Override
        public Void visitNewClass(NewClassTree tree, Void none) {
            called((ExecutableElement) trees.getElement(getCurrentPath()), tree);
            if (method() != null) {
                against("this project: objects are made with their owner alone", tree);
            }
            for (Tree argument : tree.getArguments()) {
                if (argument.getKind() != Tree.Kind.INT_LITERAL) {
                    against("rule 12: an object hands out nothing of itself while it is made", argument);
                }
            }
            return super.visitNewClass(tree, none);
        }

        @Override
        public Void visitNewArray(NewArrayTree tree, Void none) {
            if (method() != null) {
                against("this project: arrays are made with their owner alone", tree);
            }
            return super.visitNewArray(tree, none);
        }

        void called(ExecutableElement callee, Tree tree) {
            String type = callee.getEnclosingElement().toString();
            if (!type.startsWith("RingedLights")) {
                String name = callee.getEnclosingElement().getSimpleName() + "." + callee.getSimpleName();
                if (!LIBRARY.contains(name)) {
                    against("rule 4: " + name, tree);
                }
                return;
            }
            ExecutableElement caller = method();
            if (caller != null) {
                calls.computeIfAbsent(caller, key -> new HashSet<>()).add(callee);
            }
        }

        @Override
        public Void visitLiteral(LiteralTree tree, Void none) {
            if (tree.getValue() instanceof String && !((String) tree.getValue()).matches("[\\x01-\\x7f]*")) {
                against("rule 4: signs 1 to 127", tree);
            }
            return super.visitLiteral(tree, none);
        }

        @Override
        public Void visitBinary(BinaryTree tree, Void none) {
            if (tree.getKind() == Tree.Kind.PLUS && trees.getTypeMirror(getCurrentPath()).toString().contains("String")) {
                against("rule 10: texts are joined by StringBuilder", tree);
            }
            return super.visitBinary(tree, none);
        }

        @Override
        public Void visitThrow(ThrowTree tree, Void none) {
            against("rule 6: throw", tree);
            return super.visitThrow(tree, none);
        }

        @Override
        public Void visitTry(TryTree tree, Void none) {
            against("rule 6: try", tree);
            return super.visitTry(tree, none);
        }

        @Override
        public Void visitCatch(CatchTree tree, Void none) {
            against("rule 6: catch", tree);
            return super.visitCatch(tree, none);
        }

        @Override
        public Void visitSynchronized(SynchronizedTree tree, Void none) {
            against("rule 6: synchronized", tree);
            return super.visitSynchronized(tree, none);
        }

        @Override
        public Void visitAssert(AssertTree tree, Void none) {
            against("rule 6: assert", tree);
            return super.visitAssert(tree, none);
        }

        @Override
        public Void visitLambdaExpression(LambdaExpressionTree tree, Void none) {
            against("rule 2: lambda", tree);
            return super.visitLambdaExpression(tree, none);
        }

        @Override
        public Void visitMemberReference(MemberReferenceTree tree, Void none) {
            against("rule 2: method reference", tree);
            return super.visitMemberReference(tree, none);
        }

        @Override
        public Void visitInstanceOf(InstanceOfTree tree, Void none) {
            against("this project: no instanceof", tree);
            return super.visitInstanceOf(tree, none);
        }

        void checkNames() {
            for (String name : otherNames) {
                Check.due("rule 1: " + name + " is a public method's name", publicNames.contains(name), false);
            }
        }

        void checkDepth() {
            Map<String, ExecutableElement> byName = new TreeMap<>();
            for (ExecutableElement method : calls.keySet()) {
                byName.put(method.getEnclosingElement() + "." + method, method);
            }
            for (ExecutableElement method : byName.values()) {
                int depth = depthOf(method, new ArrayList<>());
                Check.due("rule 11: " + method + " goes " + depth + " deep", depth <= MOST_DEPTH, true);
                if (depth > deepest) {
                    deepest = depth;
                    deepestChain = chainOf(method);
                }
            }
        }

        int depthOf(ExecutableElement method, List<ExecutableElement> open) {
            if (open.contains(method)) {
                Check.due(method + " calls itself", true, false);
                return 1;
            }
            if (!depths.containsKey(method)) {
                List<ExecutableElement> further = new ArrayList<>(open);
                further.add(method);
                int depth = 0;
                for (ExecutableElement callee : calls.getOrDefault(method, Set.of())) {
                    depth = Math.max(depth, depthOf(callee, further));
                }
                depths.put(method, depth + 1);
            }
            return depths.get(method);
        }

        String chainOf(ExecutableElement method) {
            for (ExecutableElement callee : calls.getOrDefault(method, Set.of())) {
                if (depths.get(callee) == depths.get(method) - 1) {
                    return method.getSimpleName() + " > " + chainOf(callee);
                }
            }
            return method.getSimpleName().toString();
        }
    }
}
