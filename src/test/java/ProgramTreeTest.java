import com.sun.source.tree.ClassTree;
import com.sun.source.tree.CompilationUnitTree;
import com.sun.source.tree.MethodInvocationTree;
import com.sun.source.tree.MethodTree;
import com.sun.source.tree.NewArrayTree;
import com.sun.source.tree.NewClassTree;
import com.sun.source.tree.Tree;
import com.sun.source.tree.VariableTree;
import com.sun.source.util.JavacTask;
import com.sun.source.util.TreePath;
import com.sun.source.util.TreePathScanner;
import com.sun.source.util.Trees;
import java.io.IOException;
import java.nio.file.Path;
import java.util.HashMap;
import java.util.HashSet;
import java.util.LinkedHashMap;
import java.util.List;
import java.util.Map;
import java.util.Set;
import java.util.TreeSet;
import javax.lang.model.element.Element;
import javax.lang.model.element.ElementKind;
import javax.lang.model.element.Modifier;
import javax.tools.JavaCompiler;
import javax.tools.StandardJavaFileManager;
import javax.tools.ToolProvider;

/**
 * The rules of LANGUAGE.md that need the compiler's reading of the program: what kinds of things it
 * consists of, what it calls and how deep, what it makes and where.
 */
public final class ProgramTreeTest {
    private static final Path PROGRAM = Path.of("src", "main", "java", "VillageHall.java");
    private static final Set<String> LIBRARY = Set.of("java.lang.Math.max", "java.lang.Math.min",
            "java.lang.Integer.bitCount", "java.lang.System.arraycopy");
    private static final Set<String> TYPES = Set.of("int", "boolean", "char");
    /** Loops without a counter of their own (while, do) are not needed, so they are not let in. */
    private static final Set<Tree.Kind> NOT_ALLOWED = Set.of(Tree.Kind.LAMBDA_EXPRESSION, Tree.Kind.MEMBER_REFERENCE,
            Tree.Kind.THROW, Tree.Kind.TRY, Tree.Kind.CATCH, Tree.Kind.SYNCHRONIZED, Tree.Kind.ASSERT,
            Tree.Kind.INSTANCE_OF, Tree.Kind.TYPE_CAST, Tree.Kind.IMPORT, Tree.Kind.PACKAGE, Tree.Kind.WHILE_LOOP,
            Tree.Kind.DO_WHILE_LOOP, Tree.Kind.SWITCH_EXPRESSION, Tree.Kind.ANNOTATION);

    private final Checks checks = new Checks("ProgramTreeTest");
    private final Map<Element, Set<Element>> calls = new LinkedHashMap<>();
    private final Map<Element, Integer> depths = new HashMap<>();
    private final Set<Element> open = new HashSet<>();
    private final Set<String> publicNames = new TreeSet<>();
    private final Set<String> otherNames = new TreeSet<>();
    private CompilationUnitTree unit;
    private Trees trees;
    private int classes;

    public static void main(String[] args) throws IOException {
        ProgramTreeTest test = new ProgramTreeTest();
        test.read();
        test.checkNames();
        test.checkDepths();
        test.checks.end();
    }

    private void read() throws IOException {
        JavaCompiler compiler = ToolProvider.getSystemJavaCompiler();
        try (StandardJavaFileManager files = compiler.getStandardFileManager(null, null, null)) {
            JavacTask task = (JavacTask) compiler.getTask(null, files, null, List.of("-proc:none"), null,
                    files.getJavaFileObjects(PROGRAM));
            unit = task.parse().iterator().next();
            task.analyze();
            trees = Trees.instance(task);
            new Reader().scan(unit, null);
        }
        checks.isTrue("at most 12 classes", classes >= 1 && classes <= 12);
    }

    /** Rule 1: no private method bears the name of a public one, in no class. */
    private void checkNames() {
        checks.due("public calls", publicNames.size(), 26);
        for (String name : otherNames) {
            checks.isTrue(name + " is not the name of a public call too", !publicNames.contains(name));
        }
    }

    /** Rules 8 and 11: no recursion, and calls at most eight deep. */
    private void checkDepths() {
        int deepest = 0;
        for (Element method : calls.keySet()) {
            int depth = depth(method);
            checks.isTrue(method + " goes at most 8 deep", depth <= 8);
            deepest = Math.max(deepest, depth);
        }
        System.out.println("ProgramTreeTest: " + classes + " classes, " + calls.size() + " methods, calls at most "
                + deepest + " deep");
    }

    private int depth(Element method) {
        if (!calls.containsKey(method)) {
            return 0;
        }
        if (depths.containsKey(method)) {
            return depths.get(method);
        }
        checks.isTrue(method + " does not call itself", open.add(method));
        int deepest = 0;
        for (Element called : calls.get(method)) {
            deepest = Math.max(deepest, open.contains(called) ? 1000 : depth(called));
        }
        open.remove(method);
        depths.put(method, deepest + 1);
        return deepest + 1;
    }

    private final class Reader extends TreePathScanner<Void, Void> {
        private Element method;
        private boolean inConstructor;

        @Override
        public Void scan(Tree tree, Void none) {
            if (tree != null) {
                checks.isTrue("no " + tree.getKind() + " in the program", !NOT_ALLOWED.contains(tree.getKind()));
            }
            return super.scan(tree, none);
        }

        private Element element(Tree tree) {
            return trees.getElement(TreePath.getPath(unit, tree));
        }

        @Override
        public Void visitClass(ClassTree tree, Void none) {
            classes++;
            String name = tree.getSimpleName().toString();
            checks.isTrue("a class has a name", !name.isEmpty());
            checks.isTrue(name + " is a class of its own or static", getCurrentPath().getParentPath().getLeaf() == unit
                    || tree.getModifiers().getFlags().contains(Modifier.STATIC));
            int fields = 0;
            for (Tree member : tree.getMembers()) {
                checks.isTrue(name + " has no initialiser", member.getKind() != Tree.Kind.BLOCK);
                if (member instanceof VariableTree field) {
                    boolean isStatic = field.getModifiers().getFlags().contains(Modifier.STATIC);
                    checks.isTrue(name + "." + field.getName() + " is final if it is static",
                            !isStatic || field.getModifiers().getFlags().contains(Modifier.FINAL));
                    fields += isStatic ? 0 : 1;
                }
            }
            checks.isTrue(name + " has at most 20 fields", fields <= 20);
            return super.visitClass(tree, none);
        }

        @Override
        public Void visitMethod(MethodTree tree, Void none) {
            method = element(tree);
            inConstructor = tree.getReturnType() == null;
            calls.putIfAbsent(method, new HashSet<>());
            if (!inConstructor) {
                boolean isPublic = tree.getModifiers().getFlags().contains(Modifier.PUBLIC);
                (isPublic ? publicNames : otherNames).add(tree.getName().toString());
            }
            checks.isTrue(method + " takes at most seven parameters", tree.getParameters().size() <= 7);
            checks.isTrue(method + " is short", linesOf(tree) <= 60);
            return super.visitMethod(tree, none);
        }

        private long linesOf(MethodTree tree) {
            long start = trees.getSourcePositions().getStartPosition(unit, tree);
            long end = trees.getSourcePositions().getEndPosition(unit, tree);
            return unit.getLineMap().getLineNumber(end) - unit.getLineMap().getLineNumber(start) + 1;
        }

        @Override
        public Void visitVariable(VariableTree tree, Void none) {
            String type = element(tree).asType().toString().replace("[]", "");
            checks.isTrue(tree.getName() + " is of an allowed type, not " + type,
                    TYPES.contains(type) || type.startsWith("VillageHall."));
            return super.visitVariable(tree, none);
        }

        @Override
        public Void visitMethodInvocation(MethodInvocationTree tree, Void none) {
            Element called = element(tree.getMethodSelect());
            String name = called.getEnclosingElement() + "." + called.getSimpleName();
            if (name.startsWith("VillageHall")) {
                calls.get(method).add(called);
            } else if (name.endsWith(".clone")) {
                checks.isTrue("a copy of an array is made in a constructor", inConstructor);
            } else {
                checks.isTrue(name + " is allowed", LIBRARY.contains(name)
                        || inConstructor && called.getKind() == ElementKind.CONSTRUCTOR);
            }
            return super.visitMethodInvocation(tree, none);
        }

        /** Rule 12, and what the README says: a call makes no object. */
        @Override
        public Void visitNewClass(NewClassTree tree, Void none) {
            checks.isTrue(tree + " is made in a constructor", inConstructor);
            checks.isTrue(tree + " has no body of its own", tree.getClassBody() == null);
            calls.get(method).add(element(tree));
            return super.visitNewClass(tree, none);
        }

        @Override
        public Void visitNewArray(NewArrayTree tree, Void none) {
            TreePath parent = getCurrentPath().getParentPath();
            boolean isConstant = parent.getLeaf() instanceof VariableTree
                    && parent.getParentPath().getLeaf() instanceof ClassTree;
            checks.isTrue(tree + " is made in a constructor or for a constant", inConstructor || isConstant);
            return super.visitNewArray(tree, none);
        }
    }
}
