import com.sun.source.tree.ArrayAccessTree;
import com.sun.source.tree.AssertTree;
import com.sun.source.tree.AssignmentTree;
import com.sun.source.tree.BlockTree;
import com.sun.source.tree.ClassTree;
import com.sun.source.tree.CompilationUnitTree;
import com.sun.source.tree.ImportTree;
import com.sun.source.tree.LambdaExpressionTree;
import com.sun.source.tree.MemberReferenceTree;
import com.sun.source.tree.MemberSelectTree;
import com.sun.source.tree.MethodInvocationTree;
import com.sun.source.tree.MethodTree;
import com.sun.source.tree.NewArrayTree;
import com.sun.source.tree.NewClassTree;
import com.sun.source.tree.SynchronizedTree;
import com.sun.source.tree.ThrowTree;
import com.sun.source.tree.Tree;
import com.sun.source.tree.TryTree;
import com.sun.source.tree.VariableTree;
import com.sun.source.util.JavacTask;
import com.sun.source.util.SourcePositions;
import com.sun.source.util.TreeScanner;
import com.sun.source.util.Trees;
import java.io.File;
import java.util.HashMap;
import java.util.Map;
import java.util.Set;
import java.util.TreeSet;
import javax.lang.model.element.Modifier;
import javax.tools.JavaCompiler;
import javax.tools.StandardJavaFileManager;
import javax.tools.ToolProvider;

/** What LANGUAGE.md asks of the class and a scan of its source can tell. */
public final class LanguageTest {
    private static final String SOURCE = "src/main/java/SwallowedInTurn.java";
    private static final Set<String> IMPORTS = Set.of(
            "java.util.Arrays", "java.util.ArrayList", "java.util.List", "java.util.Iterator");
    private static final Set<String> LIBRARY = Set.of("Arrays.fill", "Math.max");
    private static final Set<String> CONSTANTS = Set.of("int", "long", "boolean", "char", "String");
    private static final Set<String> ROWS = Set.of("int[]", "long[]", "char[]", "byte[]");
    private static final Set<String> NEVER_OWN = Set.of("equals", "hashCode", "toString");

    /** By a method's name (and its class): the names that it calls. */
    private final Map<String, Set<String>> calls = new HashMap<>();
    private final Set<String> staticRows = new TreeSet<>();
    private final Set<String> assignedRows = new TreeSet<>();
    private int classes = 0;

    public static void main(String[] args) throws Exception {
        new LanguageTest().scan();
        Check.end();
    }

    private void scan() throws Exception {
        JavaCompiler compiler = ToolProvider.getSystemJavaCompiler();
        try (StandardJavaFileManager files = compiler.getStandardFileManager(null, null, null)) {
            JavacTask task = (JavacTask) compiler.getTask(null, files, null, null, null,
                    files.getJavaFileObjects(new File(SOURCE)));
            SourcePositions places = Trees.instance(task).getSourcePositions();
            for (CompilationUnitTree unit : task.parse()) {
                Check.due("package lines", unit.getPackage() == null ? 0 : 1, 0);
                new Scanner(unit, places).scan(unit, null);
            }
        }
        Check.due("classes at most twelve", classes <= 12 ? 1 : 0, 1);
        for (String name : staticRows) {
            Check.due(name + " is never changed", assignedRows.contains(name) ? 1 : 0, 0);
        }
        for (String name : calls.keySet()) {
            int depth = depth(name, 1);
            Check.due("calls from " + name + " go " + depth + " deep, eight at most", depth <= 8 ? 1 : 0, 1);
        }
    }

    /** How many calls stand open at most; names alike in several classes are taken as one, which is no less. */
    private int depth(String name, int above) {
        int deepest = above;
        if (above > 30) {
            return above;
        }
        for (String called : calls.getOrDefault(name, Set.of())) {
            if (calls.containsKey(called)) {
                deepest = Math.max(deepest, depth(called, above + 1));
            }
        }
        return deepest;
    }

    private final class Scanner extends TreeScanner<Void, Void> {
        private final CompilationUnitTree unit;
        private final SourcePositions places;
        private MethodTree method = null;

        Scanner(CompilationUnitTree unit, SourcePositions places) {
            this.unit = unit;
            this.places = places;
        }

        private void refuse(Tree tree) {
            Check.due("line " + unit.getLineMap().getLineNumber(places.getStartPosition(unit, tree))
                    + ", not in the language: " + tree, 1, 0);
        }

        @Override
        public Void visitImport(ImportTree tree, Void v) {
            if (!IMPORTS.contains(tree.getQualifiedIdentifier().toString())) {
                refuse(tree);
            }
            return null;
        }

        @Override
        public Void visitClass(ClassTree tree, Void v) {
            classes++;
            if (method != null) {
                refuse(tree);
            }
            int fields = 0;
            for (Tree member : tree.getMembers()) {
                if (member instanceof VariableTree) {
                    VariableTree field = (VariableTree) member;
                    Set<Modifier> modifiers = field.getModifiers().getFlags();
                    if (!modifiers.contains(Modifier.STATIC)) {
                        fields++;
                    } else {
                        staticField(field, modifiers.contains(Modifier.FINAL));
                    }
                }
            }
            Check.due("fields of " + tree.getSimpleName() + " at most twenty", fields <= 20 ? 1 : 0, 1);
            return super.visitClass(tree, v);
        }

        /** A constant, or a row that is written out. */
        private void staticField(VariableTree field, boolean isFinal) {
            String type = field.getType().toString();
            boolean isRow = ROWS.contains(type) && field.getInitializer() instanceof NewArrayTree
                    && ((NewArrayTree) field.getInitializer()).getInitializers() != null;
            if (!isFinal || !isRow && !CONSTANTS.contains(type)) {
                refuse(field);
            }
            if (isRow) {
                staticRows.add(field.getName().toString());
            }
        }

        @Override
        public Void visitAssignment(AssignmentTree tree, Void v) {
            if (tree.getVariable() instanceof ArrayAccessTree) {
                assignedRows.add(((ArrayAccessTree) tree.getVariable()).getExpression().toString());
            }
            return super.visitAssignment(tree, v);
        }

        @Override
        public Void visitBlock(BlockTree tree, Void v) {
            if (tree.isStatic()) {
                refuse(tree);
            }
            return super.visitBlock(tree, v);
        }

        @Override
        public Void visitMethod(MethodTree tree, Void v) {
            MethodTree outer = method;
            method = tree;
            if (NEVER_OWN.contains(tree.getName().toString())) {
                refuse(tree);
            }
            long lines = unit.getLineMap().getLineNumber(places.getEndPosition(unit, tree))
                    - unit.getLineMap().getLineNumber(places.getStartPosition(unit, tree)) + 1;
            Check.due("lines of " + tree.getName() + " at most sixty", lines <= 60 ? 1 : 0, 1);
            Check.due("parameters of " + tree.getName() + " at most seven",
                    tree.getParameters().size() <= 7 ? 1 : 0, 1);
            calls.computeIfAbsent(tree.getName().toString(), name -> new TreeSet<>());
            super.visitMethod(tree, v);
            method = outer;
            return null;
        }

        @Override
        public Void visitMethodInvocation(MethodInvocationTree tree, Void v) {
            Tree select = tree.getMethodSelect();
            String name = select.toString();
            boolean isLibrary = LIBRARY.contains(name);
            if (name.matches("[A-Z].*") && !isLibrary) {
                refuse(tree);
            }
            if (method != null && !isLibrary) {
                String own = select instanceof MemberSelectTree
                        ? ((MemberSelectTree) select).getIdentifier().toString() : name;
                calls.get(method.getName().toString()).add(own);
            }
            return super.visitMethodInvocation(tree, v);
        }

        /** Rows are made once, with the object: no call makes any. */
        private void madeInConstructorsAlone(Tree tree) {
            if (method != null && !method.getName().contentEquals("<init>")) {
                refuse(tree);
            }
        }

        @Override
        public Void visitNewClass(NewClassTree tree, Void v) {
            if (tree.getClassBody() != null) {
                refuse(tree);
            }
            madeInConstructorsAlone(tree);
            return super.visitNewClass(tree, v);
        }

        @Override
        public Void visitNewArray(NewArrayTree tree, Void v) {
            madeInConstructorsAlone(tree);
            return super.visitNewArray(tree, v);
        }

        @Override
        public Void visitThrow(ThrowTree tree, Void v) {
            refuse(tree);
            return null;
        }

        @Override
        public Void visitTry(TryTree tree, Void v) {
            refuse(tree);
            return null;
        }

        @Override
        public Void visitAssert(AssertTree tree, Void v) {
            refuse(tree);
            return null;
        }

        @Override
        public Void visitSynchronized(SynchronizedTree tree, Void v) {
            refuse(tree);
            return null;
        }

        @Override
        public Void visitLambdaExpression(LambdaExpressionTree tree, Void v) {
            refuse(tree);
            return null;
        }

        @Override
        public Void visitMemberReference(MemberReferenceTree tree, Void v) {
            refuse(tree);
            return null;
        }
    }
}
