import com.sun.source.tree.ArrayAccessTree;
import com.sun.source.tree.AssignmentTree;
import com.sun.source.tree.BinaryTree;
import com.sun.source.tree.BlockTree;
import com.sun.source.tree.ClassTree;
import com.sun.source.tree.CompilationUnitTree;
import com.sun.source.tree.CompoundAssignmentTree;
import com.sun.source.tree.ExpressionTree;
import com.sun.source.tree.ForLoopTree;
import com.sun.source.tree.IdentifierTree;
import com.sun.source.tree.MemberSelectTree;
import com.sun.source.tree.MethodInvocationTree;
import com.sun.source.tree.MethodTree;
import com.sun.source.tree.NewArrayTree;
import com.sun.source.tree.NewClassTree;
import com.sun.source.tree.Tree;
import com.sun.source.tree.TypeCastTree;
import com.sun.source.tree.UnaryTree;
import com.sun.source.tree.VariableTree;
import com.sun.source.util.JavacTask;
import com.sun.source.util.TreePath;
import com.sun.source.util.TreePathScanner;
import com.sun.source.util.Trees;
import java.io.IOException;
import java.nio.file.Files;
import java.nio.file.Path;
import java.util.ArrayList;
import java.util.EnumSet;
import java.util.LinkedHashMap;
import java.util.LinkedHashSet;
import java.util.List;
import java.util.Map;
import java.util.Set;
import javax.lang.model.element.Element;
import javax.lang.model.element.ElementKind;
import javax.lang.model.element.ExecutableElement;
import javax.lang.model.element.Modifier;
import javax.lang.model.element.TypeElement;
import javax.lang.model.type.ArrayType;
import javax.lang.model.type.TypeKind;
import javax.lang.model.type.TypeMirror;
import javax.tools.JavaCompiler;
import javax.tools.StandardJavaFileManager;
import javax.tools.ToolProvider;

/** The rules of LANGUAGE.md, by their numbers, seen in the program's tree. Run from the project's folder. */
public final class LanguageTest {
    private static final Path SOURCE = Path.of("src/main/java/UpWithSheaf.java");
    private static final int MOST_PARAMETERS = 7, MOST_LINES = 60, MOST_CLASSES = 12, MOST_FIELDS = 20, DEEPEST = 8;
    private static final Set<Tree.Kind> BARRED = EnumSet.of(
        Tree.Kind.LAMBDA_EXPRESSION, Tree.Kind.MEMBER_REFERENCE, Tree.Kind.IMPORT, Tree.Kind.PACKAGE, Tree.Kind.THROW,
        Tree.Kind.TRY, Tree.Kind.CATCH, Tree.Kind.SYNCHRONIZED, Tree.Kind.ASSERT, Tree.Kind.YIELD, Tree.Kind.ANNOTATION,
        Tree.Kind.BINDING_PATTERN, Tree.Kind.SWITCH_EXPRESSION, Tree.Kind.ENHANCED_FOR_LOOP, Tree.Kind.WHILE_LOOP,
        Tree.Kind.DO_WHILE_LOOP, Tree.Kind.INSTANCE_OF);
    // Narrower than the rule: of the library the program needs no more than these.
    private static final Set<String> LIBRARY = Set.of("java.lang.Math.max", "java.lang.Math.min", "java.lang.System.arraycopy");
    private static final Checks CHECKS = new Checks();

    private LanguageTest() { }

    public static void main(String[] args) throws IOException {
        String source = Files.readString(SOURCE);
        CHECKS.due("rule 4: signs above 126", source.chars().filter(c -> c > 126).count(), 0);
        JavaCompiler javac = ToolProvider.getSystemJavaCompiler();
        try (StandardJavaFileManager files = javac.getStandardFileManager(null, null, null)) {
            JavacTask task = (JavacTask) javac.getTask(null, files, null, null, null, files.getJavaFileObjects(SOURCE));
            CompilationUnitTree unit = task.parse().iterator().next();
            task.analyze();
            Seen seen = new Seen(Trees.instance(task), unit, source);
            seen.scan(unit, null);
            seen.finish();
        }
        CHECKS.finish("LanguageTest");
    }

    private static void holds(int rule, String what, boolean is) {
        CHECKS.due("rule " + rule + ": " + what, is ? 1 : 0, 1);
    }

    /** Walks the tree once, looks at each part, and gathers which method calls which. */
    private static final class Seen extends TreePathScanner<Void, Void> {
        private final Trees trees;
        private final CompilationUnitTree unit;
        private final String source;
        private final Map<ExecutableElement, Set<ExecutableElement>> calls = new LinkedHashMap<>();
        private ExecutableElement within = null;
        private int classes = 0;

        Seen(Trees trees, CompilationUnitTree unit, String source) {
            this.trees = trees;
            this.unit = unit;
            this.source = source;
        }

        private Element element() {
            return trees.getElement(getCurrentPath());
        }

        private String place(Tree tree) {
            return "line " + unit.getLineMap().getLineNumber(trees.getSourcePositions().getStartPosition(unit, tree));
        }

        private static boolean isOwn(Element element) {
            Element e = element;
            while (e != null && !(e instanceof TypeElement && e.getEnclosingElement().getKind() == ElementKind.PACKAGE)) {
                e = e.getEnclosingElement();
            }
            return e != null && e.getSimpleName().contentEquals("UpWithSheaf");
        }

        @Override
        public Void scan(Tree tree, Void v) {
            if (tree != null) holds(6, "no " + tree.getKind() + " at " + place(tree), !BARRED.contains(tree.getKind()));
            return super.scan(tree, v);
        }

        @Override
        public Void visitClass(ClassTree tree, Void v) {
            TypeElement type = (TypeElement) element();
            boolean isOuter = type.getEnclosingElement().getKind() == ElementKind.PACKAGE;
            classes++;
            holds(2, "a class of the file or static inside it is " + type,
                isOuter || type.getModifiers().contains(Modifier.STATIC) && type.getEnclosingElement() instanceof TypeElement);
            holds(1, "not to be seen is " + type, isOuter || type.getModifiers().contains(Modifier.PRIVATE));
            long fields = type.getEnclosedElements().stream()
                .filter(e -> e.getKind() == ElementKind.FIELD && !e.getModifiers().contains(Modifier.STATIC)).count();
            holds(11, "fields of " + type + ": " + fields, fields <= MOST_FIELDS);
            return super.visitClass(tree, v);
        }

        @Override
        public Void visitMethod(MethodTree tree, Void v) {
            ExecutableElement before = within;
            within = (ExecutableElement) element();
            calls.put(within, new LinkedHashSet<>());
            holds(11, "parameters of " + within, tree.getParameters().size() <= MOST_PARAMETERS);
            int from = (int) trees.getSourcePositions().getStartPosition(unit, tree);
            int to = (int) trees.getSourcePositions().getEndPosition(unit, tree);
            long lines = to < from ? 1 : source.substring(from, to).lines().count();
            holds(11, "lines of " + within + ": " + lines, lines <= MOST_LINES);
            super.visitMethod(tree, v);
            within = before;
            return null;
        }

        @Override
        public Void visitVariable(VariableTree tree, Void v) {
            Element variable = element();
            holds(3, "type of " + tree + ", " + place(tree), isAllowed(variable.asType()));
            if (variable.getKind() == ElementKind.FIELD && variable.getModifiers().contains(Modifier.STATIC)) {
                holds(5, "final with an initialiser is " + variable,
                    variable.getModifiers().contains(Modifier.FINAL) && tree.getInitializer() != null);
                holds(5, "type of the static " + variable, isConstantType(variable.asType()));
            }
            return super.visitVariable(tree, v);
        }

        private static boolean isAllowed(TypeMirror type) {
            if (!(type instanceof ArrayType)) return isNumber(type) || isOwnType(type);
            TypeMirror part = ((ArrayType) type).getComponentType();
            if (part instanceof ArrayType) return isNumber(((ArrayType) part).getComponentType());
            return isNumber(part) || isOwnType(part);
        }

        private static boolean isNumber(TypeMirror type) {
            return EnumSet.of(TypeKind.INT, TypeKind.LONG, TypeKind.BOOLEAN).contains(type.getKind());
        }

        private static boolean isOwnType(TypeMirror type) {
            return type.getKind() == TypeKind.DECLARED && type.toString().startsWith("UpWithSheaf");
        }

        private static boolean isConstantType(TypeMirror type) {
            return isNumber(type) || type instanceof ArrayType && isNumber(((ArrayType) type).getComponentType());
        }

        @Override
        public Void visitMethodInvocation(MethodInvocationTree tree, Void v) {
            ExecutableElement called = (ExecutableElement) element();
            if (isOwn(called)) {
                holds(5, "calls stand in methods, " + place(tree), within != null);
                if (within != null) calls.get(within).add(called);
            } else if (called.getKind() == ElementKind.METHOD) {
                String name = called.getEnclosingElement() + "." + called.getSimpleName();
                holds(4, "of the library: " + name + ", " + place(tree), LIBRARY.contains(name));
            }
            return super.visitMethodInvocation(tree, v);
        }

        @Override
        public Void visitNewClass(NewClassTree tree, Void v) {
            holds(2, "no class without a name, " + place(tree), tree.getClassBody() == null);
            Element made = element();
            holds(4, "own is what is made, " + place(tree), isOwn(made));
            madeByConstructors(tree);
            if (within != null && made instanceof ExecutableElement) calls.get(within).add((ExecutableElement) made);
            return super.visitNewClass(tree, v);
        }

        @Override
        public Void visitNewArray(NewArrayTree tree, Void v) {
            madeByConstructors(tree);
            return super.visitNewArray(tree, v);
        }

        /** The room holds what the constructors made, whatever is called. */
        private void madeByConstructors(Tree tree) {
            holds(12, "no call makes anything, " + place(tree), within == null || within.getKind() == ElementKind.CONSTRUCTOR);
        }

        @Override
        public Void visitForLoop(ForLoopTree tree, Void v) {
            holds(9, "a counter and a bound, " + place(tree), tree.getInitializer().size() == 1 && tree.getCondition() != null
                && tree.getUpdate().size() == 1);
            return super.visitForLoop(tree, v);
        }

        @Override
        public Void visitAssignment(AssignmentTree tree, Void v) {
            staticsStay(tree.getVariable());
            return super.visitAssignment(tree, v);
        }

        @Override
        public Void visitCompoundAssignment(CompoundAssignmentTree tree, Void v) {
            staticsStay(tree.getVariable());
            return super.visitCompoundAssignment(tree, v);
        }

        @Override
        public Void visitUnary(UnaryTree tree, Void v) {
            boolean changes = tree.getKind().toString().endsWith("INCREMENT") || tree.getKind().toString().endsWith("DECREMENT");
            if (changes) staticsStay(tree.getExpression());
            return super.visitUnary(tree, v);
        }

        @Override
        public Void visitBlock(BlockTree tree, Void v) {
            holds(5, "no block of a class, " + place(tree), within != null);
            return super.visitBlock(tree, v);
        }

        private void staticsStay(ExpressionTree changed) {
            Tree tree = changed;
            while (tree instanceof ArrayAccessTree) tree = ((ArrayAccessTree) tree).getExpression();
            if (!(tree instanceof IdentifierTree) && !(tree instanceof MemberSelectTree)) return;
            Element e = trees.getElement(new TreePath(getCurrentPath(), tree));
            holds(5, "never changed is a static one, " + place(changed), e == null || !e.getModifiers().contains(Modifier.STATIC));
        }

        @Override
        public Void visitTypeCast(TypeCastTree tree, Void v) {
            TypeMirror type = trees.getTypeMirror(getCurrentPath());
            holds(6, "casts are of numbers alone, " + place(tree), type != null && isNumber(type));
            return super.visitTypeCast(tree, v);
        }

        @Override
        public Void visitBinary(BinaryTree tree, Void v) {
            TypeMirror type = trees.getTypeMirror(getCurrentPath());
            holds(10, "no joining of texts, " + place(tree), type != null && isNumber(type));
            return super.visitBinary(tree, v);
        }

        void finish() {
            holds(11, "classes: " + classes, classes > 1 && classes <= MOST_CLASSES);
            holds(11, "methods were seen: " + calls.size(), calls.size() > 60);
            int recursions = 0;
            for (ExecutableElement method : calls.keySet()) {
                boolean callsItself = reached(method).contains(method);
                if (callsItself) recursions++;
                holds(8, "private and static is " + told(method) + ", that comes to itself again",
                    !callsItself || method.getModifiers().containsAll(Set.of(Modifier.PRIVATE, Modifier.STATIC)));
                holds(11, "calls below " + told(method), depth(method, new ArrayList<>()) <= DEEPEST);
            }
            holds(8, "recursions were seen", recursions > 0);
        }

        private static String told(ExecutableElement method) {
            return method.getEnclosingElement().getSimpleName() + "." + method;
        }

        private Set<ExecutableElement> reached(ExecutableElement from) {
            Set<ExecutableElement> all = new LinkedHashSet<>();
            List<ExecutableElement> open = new ArrayList<>(calls.getOrDefault(from, Set.of()));
            while (!open.isEmpty()) {
                ExecutableElement next = open.remove(open.size() - 1);
                if (all.add(next)) open.addAll(calls.getOrDefault(next, Set.of()));
            }
            return all;
        }

        /** How many calls stand open at most, each method of a recursion counted once. */
        private int depth(ExecutableElement method, List<ExecutableElement> open) {
            if (open.contains(method)) return 0;
            open.add(method);
            int below = 0;
            for (ExecutableElement called : calls.getOrDefault(method, Set.of())) below = Math.max(below, depth(called, open));
            open.remove(open.size() - 1);
            return below + 1;
        }
    }
}
