import com.sun.source.tree.ArrayTypeTree;
import com.sun.source.tree.ClassTree;
import com.sun.source.tree.CompilationUnitTree;
import com.sun.source.tree.MethodInvocationTree;
import com.sun.source.tree.MethodTree;
import com.sun.source.tree.NewArrayTree;
import com.sun.source.tree.NewClassTree;
import com.sun.source.tree.Tree;
import com.sun.source.tree.VariableTree;
import com.sun.source.util.JavacTask;
import com.sun.source.util.TreePath;
import com.sun.source.util.TreePathScanner;
import com.sun.source.util.Trees;
import java.io.IOException;
import java.nio.file.Path;
import java.util.HashMap;
import java.util.LinkedHashMap;
import java.util.List;
import java.util.Map;
import java.util.Set;
import java.util.TreeSet;
import javax.lang.model.element.Element;
import javax.lang.model.element.Modifier;
import javax.tools.JavaCompiler;
import javax.tools.StandardJavaFileManager;
import javax.tools.ToolProvider;

/** The rules of LANGUAGE.md, looked for in the tree that the compiler makes of the file. */
public final class LanguageTest {
    private static final Check CHECK = new Check("LanguageTest");
    private static final Path SOURCE = Path.of("src/main/java/TicketWindows.java");
    private static final int DEEPEST = 8;
    private static final int MOST_FIELDS = 20;
    private static final int MOST_CLASSES = 12;

    private static final Set<String> OWN = Set.of("TicketWindows", "Office", "Tickets", "Draws",
            "Windows", "Mail", "Disputes", "Orders");
    private static final Set<String> NUMBERS = Set.of("int", "char", "boolean");
    private static final Set<String> LIBRARY = Set.of("System.arraycopy", "Integer.bitCount");

    /** The kinds of tree that the class has a use for: rules 2, 6 and 10 rule out none of them. */
    private static final Set<Tree.Kind> KINDS = Set.of(Tree.Kind.CLASS, Tree.Kind.METHOD,
            Tree.Kind.VARIABLE, Tree.Kind.MODIFIERS, Tree.Kind.PRIMITIVE_TYPE,
            Tree.Kind.ARRAY_TYPE, Tree.Kind.IDENTIFIER, Tree.Kind.MEMBER_SELECT,
            Tree.Kind.METHOD_INVOCATION, Tree.Kind.NEW_CLASS, Tree.Kind.NEW_ARRAY,
            Tree.Kind.ARRAY_ACCESS, Tree.Kind.BLOCK, Tree.Kind.EXPRESSION_STATEMENT,
            Tree.Kind.RETURN, Tree.Kind.IF, Tree.Kind.FOR_LOOP, Tree.Kind.WHILE_LOOP,
            Tree.Kind.SWITCH, Tree.Kind.CASE, Tree.Kind.BREAK, Tree.Kind.CONTINUE,
            Tree.Kind.CONDITIONAL_EXPRESSION, Tree.Kind.PARENTHESIZED, Tree.Kind.ASSIGNMENT,
            Tree.Kind.INT_LITERAL, Tree.Kind.CHAR_LITERAL, Tree.Kind.BOOLEAN_LITERAL,
            Tree.Kind.PLUS, Tree.Kind.MINUS, Tree.Kind.MULTIPLY, Tree.Kind.DIVIDE,
            Tree.Kind.REMAINDER, Tree.Kind.UNARY_MINUS, Tree.Kind.BITWISE_COMPLEMENT,
            Tree.Kind.LOGICAL_COMPLEMENT, Tree.Kind.AND, Tree.Kind.LEFT_SHIFT,
            Tree.Kind.CONDITIONAL_AND, Tree.Kind.CONDITIONAL_OR, Tree.Kind.EQUAL_TO,
            Tree.Kind.NOT_EQUAL_TO, Tree.Kind.LESS_THAN, Tree.Kind.LESS_THAN_EQUAL,
            Tree.Kind.GREATER_THAN, Tree.Kind.GREATER_THAN_EQUAL, Tree.Kind.POSTFIX_INCREMENT,
            Tree.Kind.POSTFIX_DECREMENT, Tree.Kind.PLUS_ASSIGNMENT, Tree.Kind.AND_ASSIGNMENT,
            Tree.Kind.OR_ASSIGNMENT);

    public static void main(String[] args) throws IOException {
        JavaCompiler compiler = ToolProvider.getSystemJavaCompiler();
        try (StandardJavaFileManager files = compiler.getStandardFileManager(null, null, null)) {
            JavacTask task = (JavacTask) compiler.getTask(null, files, null, List.of("-proc:none"),
                    null, files.getJavaFileObjects(SOURCE));
            CompilationUnitTree unit = task.parse().iterator().next();
            task.analyze();
            Look look = new Look(Trees.instance(task), unit);
            look.scan(unit, null);
            look.finish(unit);
        }
        CHECK.finish();
    }

    private static final class Look extends TreePathScanner<Void, Void> {
        private final Trees trees;
        private final CompilationUnitTree unit;
        private final Map<String, Set<String>> calls = new LinkedHashMap<>();
        private int classes;
        private String within = "";

        Look(Trees trees, CompilationUnitTree unit) {
            this.trees = trees;
            this.unit = unit;
        }

        private long lineOf(Tree tree) {
            return unit.getLineMap().getLineNumber(
                    trees.getSourcePositions().getStartPosition(unit, tree));
        }

        @Override
        public Void scan(Tree tree, Void nothing) {
            if (tree != null && tree != unit) {
                boolean made = trees.getSourcePositions().getEndPosition(unit, tree) < 0;
                CHECK.holds("line " + lineOf(tree) + ": a kind not used so far, " + tree.getKind(),
                        made || KINDS.contains(tree.getKind()));
            }
            return super.scan(tree, nothing);
        }

        @Override
        public Void visitClass(ClassTree tree, Void nothing) {
            classes++;
            int depth = 0;
            for (TreePath path = getCurrentPath(); path != null; path = path.getParentPath()) {
                depth++;
            }
            String name = tree.getSimpleName().toString();
            Set<Modifier> flags = tree.getModifiers().getFlags();
            CHECK.holds(name + " is one of the known", OWN.contains(name));
            CHECK.holds(name + " stands in the class itself", depth <= 3);
            CHECK.holds(name + " is static", depth == 2 || flags.contains(Modifier.STATIC));
            long fields = tree.getMembers().stream()
                    .filter(member -> member instanceof VariableTree variable
                            && !variable.getModifiers().getFlags().contains(Modifier.STATIC))
                    .count();
            CHECK.holds(name + " has some twenty fields", fields <= MOST_FIELDS);
            return super.visitClass(tree, nothing);
        }

        @Override
        public Void visitVariable(VariableTree tree, Void nothing) {
            Element element = trees.getElement(getCurrentPath());
            Set<Modifier> flags = tree.getModifiers().getFlags();
            CHECK.holds(tree + ": a type of rule 3", isAllowed(tree.getType()));
            if (element.getKind().isField() && flags.contains(Modifier.STATIC)) {
                boolean written = tree.getInitializer() != null;
                CHECK.holds(tree + ": final, and written out",
                        flags.contains(Modifier.FINAL) && written);
            }
            return super.visitVariable(tree, nothing);
        }

        private static boolean isAllowed(Tree type) {
            Tree part = type instanceof ArrayTypeTree array ? array.getType() : type;
            return OWN.contains(part.toString()) || NUMBERS.contains(part.toString());
        }

        @Override
        public Void visitMethod(MethodTree tree, Void nothing) {
            String outside = within;
            within = nameOf(trees.getElement(getCurrentPath()));
            calls.put(within, calls.getOrDefault(within, new TreeSet<>()));
            long from = lineOf(tree);
            long to = unit.getLineMap().getLineNumber(
                    Math.max(0, trees.getSourcePositions().getEndPosition(unit, tree)));
            CHECK.holds(within + " has some sixty lines", to - from < 60);
            CHECK.holds(within + " takes seven at most", tree.getParameters().size() <= 7);
            super.visitMethod(tree, nothing);
            within = outside;
            return null;
        }

        @Override
        public Void visitMethodInvocation(MethodInvocationTree tree, Void nothing) {
            Element element = trees.getElement(getCurrentPath());
            String name = nameOf(element);
            boolean own = OWN.contains(element.getEnclosingElement().getSimpleName().toString());
            boolean made = element.getSimpleName().contentEquals("<init>");
            CHECK.holds(within + " calls " + name, own || made || LIBRARY.contains(name));
            if (own) {
                calls.computeIfAbsent(within, key -> new TreeSet<>()).add(name);
            }
            return super.visitMethodInvocation(tree, nothing);
        }

        @Override
        public Void visitNewClass(NewClassTree tree, Void nothing) {
            CHECK.holds(within + " makes an object: constructors alone do",
                    within.contains("<init>"));
            calls.computeIfAbsent(within, key -> new TreeSet<>())
                    .add(nameOf(trees.getElement(getCurrentPath())));
            return super.visitNewClass(tree, nothing);
        }

        /** Outside the constructors an array is written out for a constant, and nowhere else. */
        @Override
        public Void visitNewArray(NewArrayTree tree, Void nothing) {
            CHECK.holds(within + " makes an array: constructors alone do",
                    within.isEmpty() || within.contains("<init>"));
            return super.visitNewArray(tree, nothing);
        }

        private static String nameOf(Element method) {
            return method.getEnclosingElement().getSimpleName() + "." + method.getSimpleName();
        }

        void finish(CompilationUnitTree tree) {
            CHECK.due("imports", tree.getImports().size(), 0);
            CHECK.holds("no package", tree.getPackageName() == null);
            CHECK.due("classes of the file", tree.getTypeDecls().size(), 1);
            CHECK.holds("some twelve classes: " + classes, classes <= MOST_CLASSES);
            Map<String, Integer> depths = new HashMap<>();
            for (String method : calls.keySet()) {
                int depth = depthOf(method, depths, new TreeSet<>());
                CHECK.holds(method + " stands " + depth + " deep", depth <= DEEPEST);
            }
            CHECK.due("methods and constructors that were looked at", depths.size(), calls.size());
        }

        private int depthOf(String method, Map<String, Integer> depths, Set<String> open) {
            CHECK.holds(method + " calls itself", !open.contains(method));
            if (depths.containsKey(method) || !open.add(method)) {
                return depths.getOrDefault(method, 0);
            }
            int deepest = 0;
            for (String called : calls.getOrDefault(method, Set.of())) {
                deepest = Math.max(deepest, depthOf(called, depths, open));
            }
            open.remove(method);
            depths.put(method, deepest + 1);
            return deepest + 1;
        }
    }
}
