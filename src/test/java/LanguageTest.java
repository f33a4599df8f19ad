import com.sun.source.tree.AssertTree;
import com.sun.source.tree.BinaryTree;
import com.sun.source.tree.BlockTree;
import com.sun.source.tree.ClassTree;
import com.sun.source.tree.CompilationUnitTree;
import com.sun.source.tree.CompoundAssignmentTree;
import com.sun.source.tree.ExpressionTree;
import com.sun.source.tree.ImportTree;
import com.sun.source.tree.LambdaExpressionTree;
import com.sun.source.tree.LiteralTree;
import com.sun.source.tree.MemberReferenceTree;
import com.sun.source.tree.MethodInvocationTree;
import com.sun.source.tree.MethodTree;
import com.sun.source.tree.NewClassTree;
import com.sun.source.tree.PrimitiveTypeTree;
import com.sun.source.tree.SynchronizedTree;
import com.sun.source.tree.ThrowTree;
import com.sun.source.tree.Tree;
import com.sun.source.tree.TryTree;
import com.sun.source.tree.TypeCastTree;
import com.sun.source.tree.VariableTree;
import com.sun.source.util.JavacTask;
import com.sun.source.util.TreePath;
import com.sun.source.util.TreePathScanner;
import com.sun.source.util.Trees;
import java.io.File;
import java.io.IOException;
import java.util.ArrayList;
import java.util.HashSet;
import java.util.LinkedHashMap;
import java.util.List;
import java.util.Map;
import java.util.Set;
import java.util.TreeSet;
import javax.lang.model.element.Element;
import javax.lang.model.element.ElementKind;
import javax.lang.model.element.ExecutableElement;
import javax.lang.model.element.Modifier;
import javax.lang.model.type.TypeMirror;
import javax.tools.JavaCompiler;
import javax.tools.StandardJavaFileManager;
import javax.tools.ToolProvider;

/**
 * Reads the source of the class and looks for what LANGUAGE.md rules out. The class needs less than
 * the rules leave, so some checks are stricter than their rule (no try, no cast, no recursion).
 */
public final class LanguageTest {
    private static final String SOURCE = "src/main/java/FaultBench.java";
    private static final int MOST_DEEP = 8;
    private static final int MOST_PARAMETERS = 7;
    private static final int MOST_LINES = 60;
    private static final int MOST_CLASSES = 12;
    private static final int MOST_FIELDS = 20;
    private static final Set<String> LIBRARY =
            Set.of("String.charAt", "String.length", "Integer.bitCount", "Math.min");
    private static final Set<String> EXCEPTIONS =
            Set.of("IllegalStateException", "IllegalArgumentException", "IndexOutOfBoundsException");

    public static void main(String[] args) throws IOException {
        JavaCompiler compiler = ToolProvider.getSystemJavaCompiler();
        try (StandardJavaFileManager files = compiler.getStandardFileManager(null, null, null)) {
            JavacTask task = (JavacTask) compiler.getTask(null, files, null, List.of("-proc:none"), null,
                    files.getJavaFileObjects(new File(SOURCE)));
            CompilationUnitTree unit = task.parse().iterator().next();
            task.analyze();
            Reading reading = new Reading(unit, Trees.instance(task));
            reading.scan(unit, null);
            reading.due();
        }
        Check.finish("LanguageTest");
    }

    private static final class Reading extends TreePathScanner<Void, Void> {
        private final CompilationUnitTree unit;
        private final Trees trees;
        private final Set<String> ruledOut = new TreeSet<>();
        private final Map<Element, Set<Element>> calls = new LinkedHashMap<>();
        private Element caller;
        private int classes;

        Reading(CompilationUnitTree unit, Trees trees) {
            this.unit = unit;
            this.trees = trees;
        }

        void due() {
            Check.due("what the rules leave out", () -> ruledOut, new TreeSet<String>());
            Check.due(classes + " classes are few", () -> classes > 1 && classes <= MOST_CLASSES, true);
            List<Element> deepest = new ArrayList<>();
            for (Element method : calls.keySet()) {
                List<Element> chain = chain(method, new HashSet<>());
                deepest = chain.size() > deepest.size() ? chain : deepest;
            }
            int deep = deepest.size();
            Check.due("calls go " + deep + " deep " + deepest, () -> deep > 1 && deep <= MOST_DEEP, true);
        }

        /** The longest chain of calls that begins with a method. */
        private List<Element> chain(Element method, Set<Element> open) {
            List<Element> longest = new ArrayList<>();
            if (!open.add(method)) {
                ruledOut.add("rule 8: recursion of " + method);
                return longest;
            }
            for (Element called : calls.get(method)) {
                List<Element> behind = chain(called, open);
                longest = behind.size() > longest.size() ? behind : longest;
            }
            open.remove(method);
            longest.add(0, method);
            return longest;
        }

        private void ruleOut(int rule, Tree tree) {
            ruledOut.add("rule " + rule + ", line " + line(trees.getSourcePositions().getStartPosition(unit, tree)));
        }

        private long line(long position) {
            return unit.getLineMap().getLineNumber(position);
        }

        private Element element(Tree tree) {
            return trees.getElement(new TreePath(getCurrentPath(), tree));
        }

        private TypeMirror type(Tree tree) {
            return trees.getTypeMirror(new TreePath(getCurrentPath(), tree));
        }

        private boolean isOwn(Element element) {
            String name = element.toString();
            return name.equals("FaultBench") || name.startsWith("FaultBench.");
        }

        @Override
        public Void visitCompilationUnit(CompilationUnitTree tree, Void nothing) {
            if (tree.getPackageName() != null || tree.getTypeDecls().size() != 1) {
                ruleOut(1, tree);
            }
            return super.visitCompilationUnit(tree, nothing);
        }

        @Override
        public Void visitImport(ImportTree tree, Void nothing) {
            ruleOut(4, tree);
            return null;
        }

        @Override
        public Void visitClass(ClassTree tree, Void nothing) {
            classes++;
            Element element = trees.getElement(getCurrentPath());
            boolean isOuter = element.toString().equals("FaultBench");
            Set<Modifier> modifiers = element.getModifiers();
            if (!isOuter && (!modifiers.contains(Modifier.STATIC) || modifiers.contains(Modifier.PUBLIC)
                    || modifiers.contains(Modifier.PROTECTED))) {
                ruleOut(1, tree);
            }
            int fields = 0;
            for (Tree member : tree.getMembers()) {
                if (member instanceof VariableTree) {
                    fields += element(member).getModifiers().contains(Modifier.STATIC) ? 0 : 1;
                    lookAtStatic((VariableTree) member);
                }
                if (member instanceof BlockTree) {
                    ruleOut(5, member);
                }
            }
            if (fields > MOST_FIELDS) {
                ruleOut(11, tree);
            }
            return super.visitClass(tree, nothing);
        }

        private void lookAtStatic(VariableTree field) {
            Set<Modifier> modifiers = element(field).getModifiers();
            if (modifiers.contains(Modifier.STATIC)) {
                boolean isPlain = Set.of("int", "int[]").contains(field.getType().toString());
                if (!isPlain || !modifiers.contains(Modifier.FINAL) || field.getInitializer() == null) {
                    ruleOut(5, field);
                }
            }
        }

        @Override
        public Void visitMethod(MethodTree tree, Void nothing) {
            Element element = trees.getElement(getCurrentPath());
            calls.computeIfAbsent(element, e -> new HashSet<>());
            long last = line(trees.getSourcePositions().getEndPosition(unit, tree));
            long first = line(Math.max(0, trees.getSourcePositions().getStartPosition(unit, tree)));
            if (tree.getParameters().size() > MOST_PARAMETERS || last - first >= MOST_LINES) {
                ruleOut(11, tree);
            }
            if (!element.getModifiers().contains(Modifier.PUBLIC) && isPublicName(tree.getName().toString())) {
                ruleOut(1, tree);
            }
            Element outer = caller;
            caller = element;
            super.visitMethod(tree, nothing);
            caller = outer;
            return null;
        }

        private boolean isPublicName(String name) {
            for (java.lang.reflect.Method m : FaultBench.class.getDeclaredMethods()) {
                if (java.lang.reflect.Modifier.isPublic(m.getModifiers()) && m.getName().equals(name)) {
                    return true;
                }
            }
            return false;
        }

        @Override
        public Void visitMethodInvocation(MethodInvocationTree tree, Void nothing) {
            ExecutableElement called = (ExecutableElement) trees.getElement(getCurrentPath());
            Element owner = called.getEnclosingElement();
            if (isOwn(owner)) {
                if (caller == null) {
                    ruleOut(1, tree);
                } else {
                    callsOf(caller).add(called);
                    callsOf(called);
                }
            } else if (called.getKind() == ElementKind.METHOD
                    && !LIBRARY.contains(owner.getSimpleName() + "." + called.getSimpleName())) {
                ruleOut(4, tree);
            }
            return super.visitMethodInvocation(tree, nothing);
        }

        private Set<Element> callsOf(Element method) {
            return calls.computeIfAbsent(method, e -> new HashSet<>());
        }

        @Override
        public Void visitNewClass(NewClassTree tree, Void nothing) {
            Element made = element(tree.getIdentifier());
            boolean isThrown = getCurrentPath().getParentPath().getLeaf() instanceof ThrowTree;
            boolean isInConstructor = caller != null && caller.getKind() == ElementKind.CONSTRUCTOR;
            // All rows and objects of the class are made in constructors.
            if (!isThrown && !(isOwn(made) && isInConstructor) || tree.getClassBody() != null) {
                ruleOut(12, tree);
            }
            if (isOwn(made) && caller != null) {
                callsOf(caller).add(trees.getElement(getCurrentPath()));
                callsOf(trees.getElement(getCurrentPath()));
            }
            return super.visitNewClass(tree, nothing);
        }

        @Override
        public Void visitNewArray(com.sun.source.tree.NewArrayTree tree, Void nothing) {
            boolean isField = caller == null;
            boolean isInConstructor = caller != null && caller.getKind() == ElementKind.CONSTRUCTOR;
            if (!isField && !isInConstructor) {
                ruleOut(12, tree);
            }
            return super.visitNewArray(tree, nothing);
        }

        @Override
        public Void visitThrow(ThrowTree tree, Void nothing) {
            boolean isFine = caller != null && caller.getKind() == ElementKind.METHOD;
            if (isFine && tree.getExpression() instanceof NewClassTree) {
                NewClassTree made = (NewClassTree) tree.getExpression();
                isFine = EXCEPTIONS.contains(made.getIdentifier().toString());
                for (ExpressionTree argument : made.getArguments()) {
                    isFine = isFine && argument instanceof LiteralTree;
                }
            } else {
                isFine = false;
            }
            if (!isFine) {
                ruleOut(6, tree);
            }
            return super.visitThrow(tree, nothing);
        }

        @Override
        public Void visitTry(TryTree tree, Void nothing) {
            ruleOut(6, tree);
            return super.visitTry(tree, nothing);
        }

        @Override
        public Void visitSynchronized(SynchronizedTree tree, Void nothing) {
            ruleOut(6, tree);
            return super.visitSynchronized(tree, nothing);
        }

        @Override
        public Void visitAssert(AssertTree tree, Void nothing) {
            ruleOut(6, tree);
            return super.visitAssert(tree, nothing);
        }

        @Override
        public Void visitLambdaExpression(LambdaExpressionTree tree, Void nothing) {
            ruleOut(2, tree);
            return super.visitLambdaExpression(tree, nothing);
        }

        @Override
        public Void visitMemberReference(MemberReferenceTree tree, Void nothing) {
            ruleOut(2, tree);
            return super.visitMemberReference(tree, nothing);
        }

        @Override
        public Void visitPrimitiveType(PrimitiveTypeTree tree, Void nothing) {
            if (!Set.of("int", "boolean", "void").contains(tree.toString())) {
                ruleOut(3, tree);
            }
            return super.visitPrimitiveType(tree, nothing);
        }

        @Override
        public Void visitTypeCast(TypeCastTree tree, Void nothing) {
            ruleOut(6, tree);
            return super.visitTypeCast(tree, nothing);
        }

        @Override
        public Void visitBinary(BinaryTree tree, Void nothing) {
            boolean isText = type(tree.getLeftOperand()).toString().endsWith("String")
                    || type(tree.getRightOperand()).toString().endsWith("String");
            if (isText) {
                ruleOut(10, tree);
            }
            return super.visitBinary(tree, nothing);
        }

        @Override
        public Void visitCompoundAssignment(CompoundAssignmentTree tree, Void nothing) {
            if (type(tree.getVariable()).toString().endsWith("String")) {
                ruleOut(10, tree);
            }
            return super.visitCompoundAssignment(tree, nothing);
        }
    }
}
