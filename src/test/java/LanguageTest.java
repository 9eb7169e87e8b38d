import com.sun.source.tree.BinaryTree;
import com.sun.source.tree.CompilationUnitTree;
import com.sun.source.tree.CompoundAssignmentTree;
import com.sun.source.tree.ForLoopTree;
import com.sun.source.tree.LambdaExpressionTree;
import com.sun.source.tree.MemberReferenceTree;
import com.sun.source.tree.MethodInvocationTree;
import com.sun.source.tree.MethodTree;
import com.sun.source.tree.NewClassTree;
import com.sun.source.tree.ThrowTree;
import com.sun.source.tree.Tree;
import com.sun.source.tree.TryTree;
import com.sun.source.tree.VariableTree;
import com.sun.source.util.JavacTask;
import com.sun.source.util.TreePath;
import com.sun.source.util.TreePathScanner;
import com.sun.source.util.Trees;
import java.nio.file.Path;
import java.util.HashSet;
import java.util.LinkedHashMap;
import java.util.LinkedHashSet;
import java.util.List;
import java.util.Map;
import java.util.Set;
import javax.lang.model.element.Element;
import javax.lang.model.element.ElementKind;
import javax.lang.model.element.Modifier;
import javax.lang.model.element.TypeElement;
import javax.tools.JavaCompiler;
import javax.tools.StandardJavaFileManager;
import javax.tools.ToolProvider;

/** What LANGUAGE.md binds that only the parsed source shows: the library, static fields, throws, how deep calls go. */
public final class LanguageTest {
    private static final Path SOURCE = Path.of("src/main/java/ShakingCourt.java");
    private static final Set<String> LIBRARY = Set.of("Math.max", "Math.min", "Math.floorMod", "Integer.bitCount",
        "String.length", "String.charAt", "System.arraycopy", "Arrays.fill");
    private static final int MOST_DEEP = 8;
    private static final Check CHECK = new Check("LanguageTest");

    private LanguageTest() { }

    public static void main(String[] args) throws Exception {
        JavaCompiler compiler = ToolProvider.getSystemJavaCompiler();
        try (StandardJavaFileManager files = compiler.getStandardFileManager(null, null, null)) {
            JavacTask task = (JavacTask) compiler.getTask(null, files, null, List.of("-proc:none"), null,
                files.getJavaFileObjects(SOURCE));
            CompilationUnitTree unit = task.parse().iterator().next();
            task.analyze();
            Source source = new Source(Trees.instance(task));
            source.scan(unit, null);
            CHECK.due("methods were looked at", source.calls.size() > 100, true);
            depths(source.calls);
        }
        CHECK.end();
    }

    private static void depths(Map<Element, Set<Element>> calls) {
        int deepest = 0;
        for (Element method : calls.keySet()) {
            if (method.getModifiers().contains(Modifier.PUBLIC)) {
                int deep = depth(method, calls, new HashSet<>());
                deepest = Math.max(deepest, deep);
                CHECK.due("rule 11: at most eight deep, " + method + " goes " + deep, deep <= MOST_DEEP, true);
            }
        }
        System.out.println("LanguageTest: calls go at most " + deepest + " deep");
    }

    // The library's own methods count as one deep; one that stands open already is recursion, and counts no more.
    private static int depth(Element method, Map<Element, Set<Element>> calls, Set<Element> open) {
        open.add(method);
        int below = 0;
        for (Element called : calls.getOrDefault(method, Set.of())) {
            if (!open.contains(called)) {
                below = Math.max(below, depth(called, calls, open));
            }
        }
        open.remove(method);
        return below + 1;
    }

    /** Walks the class, and keeps which method calls which. */
    private static final class Source extends TreePathScanner<Void, Void> {
        final Map<Element, Set<Element>> calls = new LinkedHashMap<>();
        private final Trees trees;
        private Element method;

        Source(Trees theTrees) {
            trees = theTrees;
        }

        private Element here() {
            return trees.getElement(getCurrentPath());
        }

        @Override
        public Void visitMethod(MethodTree tree, Void none) {
            method = here();
            calls.put(method, new LinkedHashSet<>());
            CHECK.due("rule 11: seven parameters, " + method, tree.getParameters().size() <= 7, true);
            super.visitMethod(tree, none);
            method = null;
            return null;
        }

        @Override
        public Void visitMethodInvocation(MethodInvocationTree tree, Void none) {
            note(here());
            return super.visitMethodInvocation(tree, none);
        }

        @Override
        public Void visitNewClass(NewClassTree tree, Void none) {
            Element made = here().getEnclosingElement();
            boolean thrown = getCurrentPath().getParentPath().getLeaf() instanceof ThrowTree;
            CHECK.due("rule 4: new " + made, isOwn(made) || thrown, true);
            CHECK.due("rule 12: made in constructors alone, " + made, thrown || method == null
                || method.getKind() == ElementKind.CONSTRUCTOR, true);
            CHECK.due("rule 2: no body, " + made, tree.getClassBody() == null, true);
            return super.visitNewClass(tree, none);
        }

        private void note(Element called) {
            TypeElement owner = (TypeElement) called.getEnclosingElement();
            if (called.getKind() == ElementKind.CONSTRUCTOR) {
                return;
            }
            String name = owner.getSimpleName() + "." + called.getSimpleName();
            CHECK.due("rule 4: " + name, isOwn(owner) || LIBRARY.contains(name), true);
            CHECK.due("a call stands in a method: " + name, method != null, true);
            calls.get(method).add(called);
        }

        private static boolean isOwn(Element owner) {
            for (Element e = owner; e != null; e = e.getEnclosingElement()) {
                if (e.getSimpleName().contentEquals("ShakingCourt")) {
                    return true;
                }
            }
            return false;
        }

        @Override
        public Void visitVariable(VariableTree tree, Void none) {
            Element variable = here();
            if (variable.getKind() == ElementKind.FIELD && variable.getModifiers().contains(Modifier.STATIC)) {
                String type = variable.asType().toString();
                boolean constant = variable.getModifiers().contains(Modifier.FINAL)
                    && Set.of("int", "long", "boolean", "char", "java.lang.String").contains(type);
                CHECK.due("rule 5: static " + variable, constant, true);
            }
            return super.visitVariable(tree, none);
        }

        @Override
        public Void visitForLoop(ForLoopTree tree, Void none) {
            CHECK.due("rule 9: a loop with an end in " + method, tree.getCondition() != null && !tree.getUpdate().isEmpty(), true);
            return super.visitForLoop(tree, none);
        }

        // A divisor that may be 0 must be tested first: here each one is a constant, or one that its own method tests.
        @Override
        public Void visitBinary(BinaryTree tree, Void none) {
            if (tree.getKind() == Tree.Kind.DIVIDE || tree.getKind() == Tree.Kind.REMAINDER) {
                String divisor = tree.getRightOperand().toString();
                boolean tested = Set.of("courtiers", "loyal", "bound").contains(divisor)
                    && enclosingMethod().toString().contains(divisor + " > 0 ? ");
                CHECK.due("rule 7: / " + divisor, tested || isConstant(tree.getRightOperand()), true);
            }
            return super.visitBinary(tree, none);
        }

        private boolean isConstant(Tree tree) {
            if (tree.getKind() == Tree.Kind.INT_LITERAL || tree.getKind() == Tree.Kind.LONG_LITERAL) {
                return !tree.toString().equals("0");
            }
            Element e = trees.getElement(new TreePath(getCurrentPath(), tree));
            return e != null && e.getKind() == ElementKind.FIELD && e.getModifiers().contains(Modifier.STATIC);
        }

        private Tree enclosingMethod() {
            TreePath path = getCurrentPath();
            while (path.getLeaf().getKind() != Tree.Kind.METHOD) {
                path = path.getParentPath();
            }
            return path.getLeaf();
        }

        @Override
        public Void visitThrow(ThrowTree tree, Void none) {
            CHECK.due("only rests throws, not " + method, method.getSimpleName().contentEquals("rests"), true);
            CHECK.due("what it throws", tree.getExpression().toString().startsWith("new NoSuchElementException(\""), true);
            return super.visitThrow(tree, none);
        }

        @Override
        public Void visitTry(TryTree tree, Void none) {
            CHECK.due("no try in " + method, true, false);
            return super.visitTry(tree, none);
        }

        @Override
        public Void visitLambdaExpression(LambdaExpressionTree tree, Void none) {
            CHECK.due("rule 2: no lambda", true, false);
            return super.visitLambdaExpression(tree, none);
        }

        @Override
        public Void visitMemberReference(MemberReferenceTree tree, Void none) {
            CHECK.due("rule 2: no method reference", true, false);
            return super.visitMemberReference(tree, none);
        }

        @Override
        public Void visitCompoundAssignment(CompoundAssignmentTree tree, Void none) {
            boolean divides = tree.getKind() == Tree.Kind.DIVIDE_ASSIGNMENT || tree.getKind() == Tree.Kind.REMAINDER_ASSIGNMENT;
            CHECK.due("rule 7: no division by assignment", divides, false);
            return super.visitCompoundAssignment(tree, none);
        }
    }
}
