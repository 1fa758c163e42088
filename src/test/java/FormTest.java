import com.sun.source.tree.AssertTree;
import com.sun.source.tree.BinaryTree;
import com.sun.source.tree.CatchTree;
import com.sun.source.tree.ClassTree;
import com.sun.source.tree.CompilationUnitTree;
import com.sun.source.tree.CompoundAssignmentTree;
import com.sun.source.tree.ExpressionTree;
import com.sun.source.tree.LambdaExpressionTree;
import com.sun.source.tree.LiteralTree;
import com.sun.source.tree.MemberReferenceTree;
import com.sun.source.tree.MethodInvocationTree;
import com.sun.source.tree.MethodTree;
import com.sun.source.tree.NewArrayTree;
import com.sun.source.tree.NewClassTree;
import com.sun.source.tree.SynchronizedTree;
import com.sun.source.tree.ThrowTree;
import com.sun.source.tree.Tree;
import com.sun.source.tree.TryTree;
import com.sun.source.tree.TypeCastTree;
import com.sun.source.tree.VariableTree;
import com.sun.source.util.JavacTask;
import com.sun.source.util.SourcePositions;
import com.sun.source.util.TreePathScanner;
import com.sun.source.util.Trees;
import java.io.File;
import java.io.IOException;
import java.util.HashMap;
import java.util.HashSet;
import java.util.List;
import java.util.Map;
import java.util.Set;
import java.util.TreeSet;
import javax.lang.model.element.Element;
import javax.lang.model.element.ElementKind;
import javax.lang.model.element.Modifier;
import javax.lang.model.element.TypeElement;
import javax.lang.model.type.TypeMirror;
import javax.tools.JavaCompiler;
import javax.tools.StandardJavaFileManager;
import javax.tools.ToolProvider;

/**
 * The rules of ../shared/LANGUAGE.md that the source itself shows, as far as OneTrip uses what they
 * allow: a landing outside them is sent back, whatever it answers. FaceTest has rules 1 and 5.
 */
public final class FormTest {
    private static final String SOURCE = "src/main/java/OneTrip.java";
    /** Rule 4, as far as the class uses it. */
    private static final Set<String> LIBRARY = Set.of(
            "ArrayList.<init>()", "ArrayList.add(E)", "ArrayList.get(int)", "ArrayList.remove(int)",
            "ArrayList.size()", "ArrayList.isEmpty()", "ArrayList.clear()",
            "Integer.bitCount(int)", "Math.max(int,int)", "Math.min(int,int)",
            "Arrays.fill(int[],int)");
    /** Rule 6. */
    private static final Set<String> EXCEPTIONS = Set.of("IllegalStateException",
            "IllegalArgumentException", "IndexOutOfBoundsException", "ArithmeticException",
            "UnsupportedOperationException", "NoSuchElementException", "RuntimeException");
    private static final int MOST_LINES = 60;
    private static final int MOST_PARAMETERS = 7;
    private static final int MOST_FIELDS = 20;
    private static final int MOST_CLASSES = 12;
    private static final int MOST_DEPTH = 8;

    private final CompilationUnitTree unit;
    private final Trees trees;
    private final Map<Element, Set<Element>> calls = new HashMap<>();
    private final Set<String> classes = new TreeSet<>();

    private FormTest(CompilationUnitTree unit, Trees trees) {
        this.unit = unit;
        this.trees = trees;
    }

    public static void main(String[] args) throws IOException {
        JavaCompiler compiler = ToolProvider.getSystemJavaCompiler();
        try (StandardJavaFileManager files = compiler.getStandardFileManager(null, null, null)) {
            JavacTask task = (JavacTask) compiler.getTask(null, files, null,
                    List.of("-proc:none", "--release", "17"), null,
                    files.getJavaFileObjects(new File(SOURCE)));
            CompilationUnitTree unit = task.parse().iterator().next();
            task.analyze();
            FormTest test = new FormTest(unit, Trees.instance(task));
            test.theFile();
            test.new Reader().scan(unit, null);
            test.theClasses();
            test.theCalls();
        }
        Check.close("FormTest");
    }

    private static void holds(String rule, boolean does) {
        Check.same("rule " + rule, does, true);
    }

    private void theFile() {
        holds("1: without a package line", unit.getPackage() == null);
        holds("1: one class of the file's own", unit.getTypeDecls().size() == 1);
        Set<String> imports = new TreeSet<>();
        unit.getImports().forEach(one -> imports.add(one.toString().trim()));
        Check.same("rule 4: imports", imports,
                new TreeSet<>(Set.of("import java.util.ArrayList;", "import java.util.Arrays;")));
    }

    private void theClasses() {
        holds("11: some twelve classes, not " + classes.size(), classes.size() <= MOST_CLASSES);
        holds("1: the reader saw the file", classes.contains("OneTrip") && calls.size() > 50);
    }

    private void theCalls() {
        for (Element method : calls.keySet()) {
            int depth = depth(method, new HashSet<>());
            holds("8, 11: calls behind " + method + " go " + depth + " deep", depth <= MOST_DEPTH);
        }
    }

    /** How many calls stand open at the most, this one among them; too many of a recursion. */
    private int depth(Element method, Set<Element> open) {
        if (!open.add(method)) {
            return MOST_DEPTH + 1;
        }
        int most = 0;
        for (Element called : calls.getOrDefault(method, Set.of())) {
            most = Math.max(most, depth(called, open));
        }
        open.remove(method);
        return most + 1;
    }

    private final class Reader extends TreePathScanner<Void, Void> {
        private Element method;
        private final Map<String, Integer> fields = new HashMap<>();

        private Element here() {
            return trees.getElement(getCurrentPath());
        }

        private TypeMirror typeOf(Tree tree) {
            return trees.getTypeMirror(trees.getPath(unit, tree));
        }

        private String where(Tree tree) {
            return " (line " + unit.getLineMap().getLineNumber(start(tree)) + ")";
        }

        private long start(Tree tree) {
            return trees.getSourcePositions().getStartPosition(unit, tree);
        }

        private void isNotThere(String what, Tree tree) {
            Check.same("no " + what + where(tree), true, false);
        }

        @Override
        public Void visitClass(ClassTree tree, Void none) {
            Element one = here();
            classes.add(one.getSimpleName().toString());
            holds("2: no local or anonymous class" + where(tree), !one.getSimpleName().isEmpty()
                    && one.getEnclosingElement().getKind() != ElementKind.METHOD);
            int own = 0;
            for (Tree member : tree.getMembers()) {
                boolean variable = member instanceof VariableTree field
                        && !field.getModifiers().getFlags().contains(Modifier.STATIC);
                own += variable ? 1 : 0;
                holds("5: no initialiser block" + where(member),
                        member.getKind() != Tree.Kind.BLOCK);
            }
            holds("11: " + one + " has " + own + " fields", own <= MOST_FIELDS);
            return super.visitClass(tree, none);
        }

        @Override
        public Void visitMethod(MethodTree tree, Void none) {
            Element outer = method;
            method = here();
            calls.putIfAbsent(method, new HashSet<>());
            SourcePositions places = trees.getSourcePositions();
            long first = unit.getLineMap().getLineNumber(start(tree));
            long end = places.getEndPosition(unit, tree);
            long last = end < 0 ? first : unit.getLineMap().getLineNumber(end);
            holds("11: " + method + " has lines " + first + " to " + last,
                    last - first < MOST_LINES);
            holds("11: parameters of " + method, tree.getParameters().size() <= MOST_PARAMETERS);
            if (tree.getReturnType() != null) {
                isAllowed(typeOf(tree.getReturnType()), tree);
            }
            super.visitMethod(tree, none);
            method = outer;
            return null;
        }

        @Override
        public Void visitVariable(VariableTree tree, Void none) {
            isAllowed(here().asType(), tree);
            return super.visitVariable(tree, none);
        }

        @Override
        public Void visitNewArray(NewArrayTree tree, Void none) {
            isAllowed(typeOf(tree), tree);
            return super.visitNewArray(tree, none);
        }

        /** Rule 3, as far as the class uses it. */
        private void isAllowed(TypeMirror type, Tree tree) {
            String name = type.toString();
            String bare = name.endsWith("[]") ? name.substring(0, name.length() - 2) : name;
            if (bare.startsWith("java.util.ArrayList<") && bare.endsWith(">")) {
                bare = bare.substring("java.util.ArrayList<".length(), bare.length() - 1);
            }
            boolean own = bare.equals("OneTrip") || bare.startsWith("OneTrip.");
            holds("3: " + name + where(tree),
                    own || Set.of("int", "boolean", "void").contains(bare));
        }

        @Override
        public Void visitMethodInvocation(MethodInvocationTree tree, Void none) {
            called(here(), tree);
            return super.visitMethodInvocation(tree, none);
        }

        @Override
        public Void visitNewClass(NewClassTree tree, Void none) {
            Element made = here();
            if (!EXCEPTIONS.contains(made.getEnclosingElement().getSimpleName().toString())) {
                called(made, tree);
            }
            return super.visitNewClass(tree, none);
        }

        private void called(Element target, Tree tree) {
            TypeElement owner = (TypeElement) target.getEnclosingElement();
            boolean own = owner.getQualifiedName().toString().startsWith("OneTrip");
            boolean super0 = owner.getQualifiedName().contentEquals("java.lang.Object")
                    && target.getKind() == ElementKind.CONSTRUCTOR;
            if (!own && !super0) {
                String name = target.getKind() == ElementKind.CONSTRUCTOR
                        ? "<init>()" : target.toString();
                String told = owner.getSimpleName() + "." + name;
                holds("4: " + told + where(tree), LIBRARY.contains(told));
            } else if (own && method != null) {
                calls.get(method).add(target);
                holds("12: a constructor calls what no other class overrides" + where(tree),
                        method.getKind() != ElementKind.CONSTRUCTOR
                        || target.getKind() == ElementKind.CONSTRUCTOR
                        || target.getModifiers().contains(Modifier.PRIVATE));
            }
        }

        @Override
        public Void visitThrow(ThrowTree tree, Void none) {
            ExpressionTree thrown = tree.getExpression();
            boolean plain = thrown instanceof NewClassTree made
                    && EXCEPTIONS.contains(made.getIdentifier().toString())
                    && made.getArguments().size() <= 1
                    && made.getArguments().stream().allMatch(one -> one instanceof LiteralTree);
            holds("6: throw new E()" + where(tree), plain);
            holds("6: none in a constructor" + where(tree),
                    method.getKind() != ElementKind.CONSTRUCTOR);
            return super.visitThrow(tree, none);
        }

        @Override
        public Void visitTry(TryTree tree, Void none) {
            holds("6: no finally, no resources" + where(tree),
                    tree.getFinallyBlock() == null && tree.getResources().isEmpty());
            return super.visitTry(tree, none);
        }

        @Override
        public Void visitCatch(CatchTree tree, Void none) {
            isNotThere("catch: what the machine throws is never an answer", tree);
            return super.visitCatch(tree, none);
        }

        @Override
        public Void visitLambdaExpression(LambdaExpressionTree tree, Void none) {
            isNotThere("lambda", tree);
            return null;
        }

        @Override
        public Void visitMemberReference(MemberReferenceTree tree, Void none) {
            isNotThere("method reference", tree);
            return null;
        }

        @Override
        public Void visitSynchronized(SynchronizedTree tree, Void none) {
            isNotThere("synchronized", tree);
            return null;
        }

        @Override
        public Void visitAssert(AssertTree tree, Void none) {
            isNotThere("assert", tree);
            return null;
        }

        @Override
        public Void visitTypeCast(TypeCastTree tree, Void none) {
            isNotThere("cast: no test makes one safe here", tree);
            return super.visitTypeCast(tree, none);
        }

        @Override
        public Void visitBinary(BinaryTree tree, Void none) {
            holds("10: no text is joined by +" + where(tree),
                    !typeOf(tree).toString().equals("java.lang.String"));
            return super.visitBinary(tree, none);
        }

        @Override
        public Void visitCompoundAssignment(CompoundAssignmentTree tree, Void none) {
            holds("10: no text is joined by +=" + where(tree),
                    !typeOf(tree).toString().equals("java.lang.String"));
            return super.visitCompoundAssignment(tree, none);
        }
    }
}
