import com.sun.source.tree.AssertTree;
import com.sun.source.tree.AssignmentTree;
import com.sun.source.tree.BinaryTree;
import com.sun.source.tree.BlockTree;
import com.sun.source.tree.CatchTree;
import com.sun.source.tree.ClassTree;
import com.sun.source.tree.CompilationUnitTree;
import com.sun.source.tree.CompoundAssignmentTree;
import com.sun.source.tree.DoWhileLoopTree;
import com.sun.source.tree.ForLoopTree;
import com.sun.source.tree.IdentifierTree;
import com.sun.source.tree.ImportTree;
import com.sun.source.tree.InstanceOfTree;
import com.sun.source.tree.LambdaExpressionTree;
import com.sun.source.tree.LiteralTree;
import com.sun.source.tree.MemberReferenceTree;
import com.sun.source.tree.MethodInvocationTree;
import com.sun.source.tree.MethodTree;
import com.sun.source.tree.NewArrayTree;
import com.sun.source.tree.NewClassTree;
import com.sun.source.tree.PackageTree;
import com.sun.source.tree.SynchronizedTree;
import com.sun.source.tree.ThrowTree;
import com.sun.source.tree.Tree;
import com.sun.source.tree.TryTree;
import com.sun.source.tree.TypeCastTree;
import com.sun.source.tree.UnaryTree;
import com.sun.source.tree.VariableTree;
import com.sun.source.tree.WhileLoopTree;
import com.sun.source.util.JavacTask;
import com.sun.source.util.TreePath;
import com.sun.source.util.TreePathScanner;
import com.sun.source.util.TreeScanner;
import com.sun.source.util.Trees;
import java.io.IOException;
import java.nio.file.Files;
import java.nio.file.Path;
import java.util.HashMap;
import java.util.HashSet;
import java.util.List;
import java.util.Map;
import java.util.Set;
import javax.lang.model.element.Element;
import javax.lang.model.element.ElementKind;
import javax.lang.model.element.ExecutableElement;
import javax.lang.model.element.Modifier;
import javax.lang.model.type.TypeMirror;
import javax.tools.JavaCompiler;
import javax.tools.StandardJavaFileManager;
import javax.tools.ToolProvider;

/** The rules of LANGUAGE.md, looked for in the source as the compiler reads it; run from the checkout's root. */
public final class LanguageTest {
    private static final Check CHECK = new Check("LanguageTest");
    private static final Path SOURCE = Path.of("src/main/java/RiverSuit.java");
    private static final int LONGEST_METHOD = 60, MOST_PARAMETERS = 7, MOST_CLASSES = 12, MOST_FIELDS = 20, DEEPEST = 8;
    private static final String CLASS = "RiverSuit";
    /** Of what rule 4 lists, that which the class needs; another one is looked up in the rule and put here. */
    private static final Set<String> LIBRARY = Set.of("java.lang.String.length", "java.lang.String.charAt",
            "java.lang.Integer.bitCount", "java.lang.Math.max", "java.lang.Math.abs", "java.lang.System.arraycopy",
            "java.lang.Object.<init>");
    private static final Set<String> STATIC_TYPES = Set.of("int", "long", "boolean", "char", "java.lang.String",
            "int[]", "long[]", "char[]", "byte[]");
    /** Each was read: 0 is refused ahead of it. Another one is read, too, and put here. */
    private static final Set<String> DIVISIONS = Set.of("drift by suit.claims", "lowest by rest", "lowest by divisor");
    private static final Set<String> NUMBERS = Set.of("int", "long", "short", "byte", "char", "boolean");

    public static void main(String[] args) throws IOException {
        String source = Files.readString(SOURCE);
        CHECK.isTrue("only signs 1 to 127", source.chars().allMatch(c -> c > 0 && c < 128));
        JavaCompiler compiler = ToolProvider.getSystemJavaCompiler();
        try (StandardJavaFileManager files = compiler.getStandardFileManager(null, null, null)) {
            JavacTask task = (JavacTask) compiler.getTask(null, files, null, List.of("-proc:none"), null,
                    files.getJavaFileObjects(SOURCE));
            CompilationUnitTree unit = task.parse().iterator().next();
            task.analyze();
            Walk walk = new Walk(Trees.instance(task), unit);
            walk.scan(unit, null);
            walk.close();
        }
        CHECK.close();
    }

    /** Sees each node of the source once. */
    private static final class Walk extends TreePathScanner<Void, Void> {
        private final Trees trees;
        private final CompilationUnitTree unit;
        private final Map<Element, Set<Element>> calls = new HashMap<>();
        private int classes;
        private int methods;

        Walk(Trees trees, CompilationUnitTree unit) {
            this.trees = trees;
            this.unit = unit;
        }

        private void so(int rule, String what, Tree tree, boolean is) {
            long line = unit.getLineMap().getLineNumber(trees.getSourcePositions().getStartPosition(unit, tree));
            CHECK.isTrue("rule " + rule + ", line " + line + ": " + what, is);
        }

        private void barred(int rule, String what, Tree tree) {
            so(rule, "no " + what, tree, false);
        }

        private Element element() {
            return trees.getElement(getCurrentPath());
        }

        private Element enclosing(Tree.Kind kind) {
            for (TreePath p = getCurrentPath(); p != null; p = p.getParentPath()) {
                if (p.getLeaf().getKind() == kind) {
                    return trees.getElement(p);
                }
            }
            return null;
        }

        private long lines(Tree tree) {
            long from = trees.getSourcePositions().getStartPosition(unit, tree);
            long to = trees.getSourcePositions().getEndPosition(unit, tree);
            return unit.getLineMap().getLineNumber(to) - unit.getLineMap().getLineNumber(from) + 1;
        }

        void close() {
            CHECK.isTrue("rule 11: few classes", classes > 1 && classes <= MOST_CLASSES);
            CHECK.isTrue("all methods were met", methods > 41);
            for (Element method : calls.keySet()) {
                int depth = depth(method, new HashSet<>());
                CHECK.isTrue("rules 8, 11: " + method + " goes " + depth + " deep", depth <= DEEPEST);
            }
        }

        /** How many calls stand open at once below a method, it too; the class has no recursion at all. */
        private int depth(Element method, Set<Element> open) {
            if (!open.add(method)) {
                return Integer.MAX_VALUE / 2;
            }
            int deepest = 0;
            for (Element called : calls.getOrDefault(method, Set.of())) {
                deepest = Math.max(deepest, depth(called, open));
            }
            open.remove(method);
            return deepest + 1;
        }

        // ---- rule 1, 2: the file and its classes

        @Override
        public Void visitPackage(PackageTree tree, Void v) {
            barred(1, "package", tree);
            return super.visitPackage(tree, v);
        }

        @Override
        public Void visitImport(ImportTree tree, Void v) {
            barred(4, "import", tree);
            return super.visitImport(tree, v);
        }

        @Override
        public Void visitClass(ClassTree tree, Void v) {
            classes++;
            Tree outer = getCurrentPath().getParentPath().getLeaf();
            Set<Modifier> is = tree.getModifiers().getFlags();
            if (outer instanceof CompilationUnitTree) {
                so(1, "one public final class", tree, tree.getSimpleName().contentEquals(CLASS)
                        && is.contains(Modifier.PUBLIC) && is.contains(Modifier.FINAL));
            } else {
                so(2, "a class inside a class, static", tree,
                        outer instanceof ClassTree && is.contains(Modifier.STATIC));
                so(1, "private or package-visible", tree,
                        !is.contains(Modifier.PUBLIC) && !is.contains(Modifier.PROTECTED));
            }
            int fields = 0;
            for (Tree member : tree.getMembers()) {
                boolean field = member instanceof VariableTree;
                if (field && !((VariableTree) member).getModifiers().getFlags().contains(Modifier.STATIC)) {
                    fields++;
                }
                so(5, "no initialiser block", member, !(member instanceof BlockTree));
            }
            so(11, fields + " fields", tree, fields <= MOST_FIELDS);
            return super.visitClass(tree, v);
        }

        @Override
        public Void visitMethod(MethodTree tree, Void v) {
            methods++;
            calls.putIfAbsent(element(), new HashSet<>());
            so(11, "seven parameters at most", tree, tree.getParameters().size() <= MOST_PARAMETERS);
            so(11, "a short method", tree, lines(tree) <= LONGEST_METHOD);
            so(6, "nothing thrown", tree, tree.getThrows().isEmpty());
            so(6, "not equals, hashCode, toString", tree,
                    !Set.of("equals", "hashCode", "toString").contains(tree.getName().toString()));
            so(6, "not synchronized", tree, !tree.getModifiers().getFlags().contains(Modifier.SYNCHRONIZED));
            return super.visitMethod(tree, v);
        }

        @Override
        public Void visitLambdaExpression(LambdaExpressionTree tree, Void v) {
            barred(2, "lambda", tree);
            return super.visitLambdaExpression(tree, v);
        }

        @Override
        public Void visitMemberReference(MemberReferenceTree tree, Void v) {
            barred(2, "method reference", tree);
            return super.visitMemberReference(tree, v);
        }

        // ---- rules 3, 5: types and static fields

        @Override
        public Void visitVariable(VariableTree tree, Void v) {
            String type = element().asType().toString();
            String bare = type.replace("[]", "");
            boolean number = NUMBERS.contains(bare);
            boolean own = bare.startsWith(CLASS + ".");
            int arrays = (type.length() - bare.length()) / 2;
            so(3, "a type of the rule: " + type, tree, number && arrays <= 2 || own && arrays <= 1
                    || type.equals("java.lang.String"));
            if (element().getKind() == ElementKind.FIELD && element().getModifiers().contains(Modifier.STATIC)) {
                so(5, "final", tree, element().getModifiers().contains(Modifier.FINAL));
                so(5, "a constant's type: " + type, tree, STATIC_TYPES.contains(type));
                so(5, "written out", tree, tree.getInitializer() != null && (arrays == 0
                        || ((NewArrayTree) tree.getInitializer()).getInitializers() != null));
            }
            return super.visitVariable(tree, v);
        }

        @Override
        public Void visitLiteral(LiteralTree tree, Void v) {
            so(7, "no null", tree, tree.getKind() != Tree.Kind.NULL_LITERAL);
            return super.visitLiteral(tree, v);
        }

        // ---- rule 4: the library

        private void called(Tree tree, Element method) {
            String name = method.getEnclosingElement() + "." + method.getSimpleName();
            boolean own = name.startsWith(CLASS + ".");
            so(4, "a call of the rule: " + name, tree, own || LIBRARY.contains(name));
            Element from = enclosing(Tree.Kind.METHOD);
            if (own && from instanceof ExecutableElement) {
                calls.computeIfAbsent(from, k -> new HashSet<>()).add(method);
            }
        }

        @Override
        public Void visitMethodInvocation(MethodInvocationTree tree, Void v) {
            called(tree, element());
            return super.visitMethodInvocation(tree, v);
        }

        @Override
        public Void visitIdentifier(IdentifierTree tree, Void v) {
            so(6, "not this object as a value", tree, !tree.getName().contentEquals("this"));
            return super.visitIdentifier(tree, v);
        }

        // ---- rule 12: all is made in constructors, so that calls take no room

        @Override
        public Void visitNewClass(NewClassTree tree, Void v) {
            so(2, "no anonymous class", tree, tree.getClassBody() == null);
            so(12, "made in a constructor", tree, inConstructor());
            called(tree, element());
            return super.visitNewClass(tree, v);
        }

        @Override
        public Void visitNewArray(NewArrayTree tree, Void v) {
            so(12, "made in a constructor", tree, inConstructor());
            return super.visitNewArray(tree, v);
        }

        private boolean inConstructor() {
            Element method = enclosing(Tree.Kind.METHOD);
            return method == null || method.getKind() == ElementKind.CONSTRUCTOR;
        }

        // ---- rule 6: what is barred

        @Override
        public Void visitThrow(ThrowTree tree, Void v) {
            barred(6, "throw", tree);
            return super.visitThrow(tree, v);
        }

        @Override
        public Void visitTry(TryTree tree, Void v) {
            barred(6, "try", tree);
            return super.visitTry(tree, v);
        }

        @Override
        public Void visitCatch(CatchTree tree, Void v) {
            barred(6, "catch", tree);
            return super.visitCatch(tree, v);
        }

        @Override
        public Void visitSynchronized(SynchronizedTree tree, Void v) {
            barred(6, "synchronized", tree);
            return super.visitSynchronized(tree, v);
        }

        @Override
        public Void visitAssert(AssertTree tree, Void v) {
            barred(6, "assert", tree);
            return super.visitAssert(tree, v);
        }

        @Override
        public Void visitInstanceOf(InstanceOfTree tree, Void v) {
            barred(6, "instanceof needed", tree);
            return super.visitInstanceOf(tree, v);
        }

        @Override
        public Void visitTypeCast(TypeCastTree tree, Void v) {
            so(6, "casts of numbers alone", tree, NUMBERS.contains(tree.getType().toString()));
            return super.visitTypeCast(tree, v);
        }

        @Override
        public Void visitBinary(BinaryTree tree, Void v) {
            TypeMirror left = trees.getTypeMirror(new TreePath(getCurrentPath(), tree.getLeftOperand()));
            TypeMirror right = trees.getTypeMirror(new TreePath(getCurrentPath(), tree.getRightOperand()));
            so(10, "numbers alone are joined and compared", tree,
                    left.getKind().isPrimitive() && right.getKind().isPrimitive());
            if (tree.getKind() == Tree.Kind.DIVIDE || tree.getKind() == Tree.Kind.REMAINDER) {
                String division = enclosing(Tree.Kind.METHOD).getSimpleName() + " by " + tree.getRightOperand();
                so(7, "a divisor that is looked at: " + division, tree, DIVISIONS.contains(division));
            }
            return super.visitBinary(tree, v);
        }

        @Override
        public Void visitCompoundAssignment(CompoundAssignmentTree tree, Void v) {
            so(7, "no division that also assigns", tree, tree.getKind() != Tree.Kind.DIVIDE_ASSIGNMENT
                    && tree.getKind() != Tree.Kind.REMAINDER_ASSIGNMENT);
            return super.visitCompoundAssignment(tree, v);
        }

        // ---- rule 9: loops

        @Override
        public Void visitForLoop(ForLoopTree tree, Void v) {
            boolean counted = tree.getInitializer().size() == 1 && tree.getCondition() != null
                    && tree.getUpdate().size() == 1 && tree.getInitializer().get(0) instanceof VariableTree;
            so(9, "a counter against a bound", tree, counted);
            if (counted) {
                String counter = ((VariableTree) tree.getInitializer().get(0)).getName().toString();
                so(9, "counted by one", tree, tree.getUpdate().get(0).toString().matches(counter + "(\\+\\+|--);?"));
                so(9, "the counter has a bound", tree,
                        tree.getCondition().toString().matches("(?s).*\\b" + counter + " (<|<=|>=) .*"));
                so(9, "the counter is not changed inside", tree, !new Changes(counter).in(tree.getStatement()));
            }
            return super.visitForLoop(tree, v);
        }

        @Override
        public Void visitWhileLoop(WhileLoopTree tree, Void v) {
            barred(9, "while", tree);
            return super.visitWhileLoop(tree, v);
        }

        @Override
        public Void visitDoWhileLoop(DoWhileLoopTree tree, Void v) {
            barred(9, "do", tree);
            return super.visitDoWhileLoop(tree, v);
        }
    }

    /** Whether a variable is given another number in a part of the source. */
    private static final class Changes extends TreeScanner<Void, Void> {
        private final String name;
        private boolean met;

        Changes(String name) {
            this.name = name;
        }

        boolean in(Tree tree) {
            scan(tree, null);
            return met;
        }

        private void changed(Tree what) {
            met |= what.toString().equals(name);
        }

        @Override
        public Void visitAssignment(AssignmentTree tree, Void v) {
            changed(tree.getVariable());
            return super.visitAssignment(tree, v);
        }

        @Override
        public Void visitCompoundAssignment(CompoundAssignmentTree tree, Void v) {
            changed(tree.getVariable());
            return super.visitCompoundAssignment(tree, v);
        }

        @Override
        public Void visitUnary(UnaryTree tree, Void v) {
            if (tree.getKind().toString().matches(".*_(IN|DE)CREMENT")) {
                changed(tree.getExpression());
            }
            return super.visitUnary(tree, v);
        }
    }
}
