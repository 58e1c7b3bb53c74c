import com.sun.source.tree.BinaryTree;
import com.sun.source.tree.ClassTree;
import com.sun.source.tree.CompilationUnitTree;
import com.sun.source.tree.CompoundAssignmentTree;
import com.sun.source.tree.ExpressionTree;
import com.sun.source.tree.ForLoopTree;
import com.sun.source.tree.MethodInvocationTree;
import com.sun.source.tree.MethodTree;
import com.sun.source.tree.NewClassTree;
import com.sun.source.tree.Tree;
import com.sun.source.tree.WhileLoopTree;
import com.sun.source.util.JavacTask;
import com.sun.source.util.TreePath;
import com.sun.source.util.TreePathScanner;
import com.sun.source.util.Trees;
import java.io.File;
import java.io.IOException;
import java.util.ArrayList;
import java.util.List;
import java.util.Map;
import java.util.Set;
import java.util.TreeMap;
import java.util.TreeSet;
import javax.lang.model.element.Element;
import javax.lang.model.element.Modifier;
import javax.lang.model.type.TypeMirror;
import javax.tools.JavaCompiler;
import javax.tools.StandardJavaFileManager;
import javax.tools.ToolProvider;

/** The rules of LANGUAGE.md on who calls whom, looked at in the compiler's own tree; run from the project's folder. */
public final class CallsTest {
    private static final String SOURCE = "src/main/java/AlikeStore.java";
    private static final int MOST_DEEP = 8;
    private static final Set<String> LIBRARY = Set.of(
        "String.length", "String.charAt", "String.isEmpty", "String.equals", "String.indexOf", "String.substring",
        "String.toCharArray", "StringBuilder.append", "StringBuilder.charAt", "StringBuilder.setCharAt",
        "StringBuilder.setLength", "StringBuilder.deleteCharAt", "StringBuilder.reverse", "StringBuilder.length",
        "StringBuilder.toString", "Integer.compare", "Integer.max", "Integer.min", "Integer.bitCount", "Long.compare",
        "Long.max", "Long.min", "Long.bitCount", "Math.max", "Math.min", "Math.abs", "Math.floorDiv", "Math.floorMod",
        "System.arraycopy", "Arrays.copyOf", "Arrays.copyOfRange", "Arrays.fill");

    private static final Map<String, Set<String>> CALLED = new TreeMap<>();
    private static final Set<String> FACE = new TreeSet<>();
    private static final Set<String> OPEN = new TreeSet<>();
    private static int wrong = 0;

    public static void main(String[] args) throws IOException {
        JavaCompiler compiler = ToolProvider.getSystemJavaCompiler();
        try (StandardJavaFileManager files = compiler.getStandardFileManager(null, null, null)) {
            JavacTask task = (JavacTask) compiler.getTask(null, files, null, List.of("-proc:none"), null,
                    files.getJavaFileObjects(new File(SOURCE)));
            Iterable<? extends CompilationUnitTree> units = task.parse();
            task.analyze();
            for (CompilationUnitTree unit : units) {
                new Scanner(Trees.instance(task)).scan(unit, null);
            }
        }
        rule(FACE.size() == 43, "the face has " + FACE.size() + " calls, 43 are due");
        depths();
        System.out.println("CallsTest: " + CALLED.size() + " methods, " + wrong + " rules broken");
        if (wrong != 0) {
            System.exit(1);
        }
    }

    private static void rule(boolean kept, String what) {
        if (!kept) {
            wrong++;
            System.out.println(what);
        }
    }

    // ---- rules 8 and 11

    private static void depths() {
        for (String method : CALLED.keySet()) {
            rule(!reaches(method, method, new TreeSet<>()) || !OPEN.contains(method),
                    method + " calls itself and isn't private");
        }
        for (String method : FACE) {
            List<String> chain = longest(method, new TreeSet<>());
            rule(chain.size() <= MOST_DEEP, "deeper than " + MOST_DEEP + ": " + String.join(" > ", chain));
        }
    }

    private static boolean reaches(String from, String to, Set<String> seen) {
        for (String next : CALLED.getOrDefault(from, Set.of())) {
            if (next.equals(to) || seen.add(next) && reaches(next, to, seen)) {
                return true;
            }
        }
        return false;
    }

    /** The longest chain in which none stands twice: what a recursion adds is its own limit's. */
    private static List<String> longest(String method, Set<String> above) {
        List<String> best = List.of();
        above.add(method);
        for (String next : CALLED.getOrDefault(method, Set.of())) {
            if (!above.contains(next)) {
                List<String> chain = longest(next, above);
                best = chain.size() > best.size() ? chain : best;
            }
        }
        above.remove(method);
        List<String> chain = new ArrayList<>(List.of(method));
        chain.addAll(best);
        return chain;
    }

    /** Rules 4, 9, 10 and 12 in passing, and who calls whom. */
    private static final class Scanner extends TreePathScanner<Void, Void> {
        private final Trees trees;
        private String method = "";

        Scanner(Trees trees) {
            this.trees = trees;
        }

        private Element element() {
            return trees.getElement(getCurrentPath());
        }

        private static String named(Element element) {
            String owner = element.getEnclosingElement().getSimpleName().toString();
            return owner + "." + element;
        }

        private static boolean isOwn(Element element) {
            String owner = element.getEnclosingElement().toString();
            return owner.equals("AlikeStore") || owner.startsWith("AlikeStore.");
        }

        private boolean isText(ExpressionTree tree) {
            TypeMirror type = trees.getTypeMirror(new TreePath(getCurrentPath(), tree));
            return type != null && type.toString().startsWith("java.lang.String");
        }

        @Override
        public Void visitClass(ClassTree tree, Void none) {
            Element type = element();
            rule(type.getEnclosingElement().getSimpleName().contentEquals("AlikeStore")
                    || type.getSimpleName().contentEquals("AlikeStore"), type + " isn't right inside the class");
            String outside = method;
            method = type.getSimpleName() + "." + type.getSimpleName() + "()";
            super.visitClass(tree, none);
            method = outside;
            return none;
        }

        @Override
        public Void visitMethod(MethodTree tree, Void none) {
            Element element = element();
            method = named(element);
            CALLED.putIfAbsent(method, new TreeSet<>());
            boolean made = tree.getName().contentEquals("<init>");
            if (!made && element.getModifiers().contains(Modifier.PUBLIC)) {
                FACE.add(method);
            }
            if (!element.getModifiers().contains(Modifier.PRIVATE)) {
                OPEN.add(method);
            }
            return super.visitMethod(tree, none);
        }

        @Override
        public Void visitMethodInvocation(MethodInvocationTree tree, Void none) {
            call(element());
            return super.visitMethodInvocation(tree, none);
        }

        @Override
        public Void visitNewClass(NewClassTree tree, Void none) {
            rule(tree.getClassBody() == null, "a class without a name in " + method);
            call(element());
            return super.visitNewClass(tree, none);
        }

        private void call(Element called) {
            if (isOwn(called)) {
                CALLED.computeIfAbsent(method, m -> new TreeSet<>()).add(named(called));
                return;
            }
            String name = called.getEnclosingElement().getSimpleName() + "." + called.getSimpleName();
            // Each constructor calls Object's, unseen.
            rule(LIBRARY.contains(name) || name.equals("Object.<init>"), method + " calls " + name);
        }

        @Override
        public Void visitBinary(BinaryTree tree, Void none) {
            boolean texts = isText(tree.getLeftOperand()) || isText(tree.getRightOperand());
            rule(!texts, "an operator between texts in " + method);
            return super.visitBinary(tree, none);
        }

        @Override
        public Void visitCompoundAssignment(CompoundAssignmentTree tree, Void none) {
            rule(!isText(tree.getVariable()), "a text is made longer in " + method);
            return super.visitCompoundAssignment(tree, none);
        }

        @Override
        public Void visitForLoop(ForLoopTree tree, Void none) {
            rule(tree.getCondition() != null, "a loop without an end in " + method);
            return super.visitForLoop(tree, none);
        }

        @Override
        public Void visitWhileLoop(WhileLoopTree tree, Void none) {
            ExpressionTree condition = tree.getCondition();
            rule(condition.getKind() == Tree.Kind.PARENTHESIZED && !condition.toString().equals("(true)"),
                    "a loop without an end in " + method);
            return super.visitWhileLoop(tree, none);
        }
    }
}
