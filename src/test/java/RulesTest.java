import com.sun.source.tree.*;
import com.sun.source.util.JavacTask;
import com.sun.source.util.TreeScanner;
import java.nio.file.Files;
import java.nio.file.Path;
import java.util.ArrayList;
import java.util.EnumSet;
import java.util.HashMap;
import java.util.HashSet;
import java.util.List;
import java.util.Map;
import java.util.Set;
import java.util.TreeSet;
import javax.lang.model.element.Modifier;
import javax.tools.JavaCompiler;
import javax.tools.ToolProvider;

/** Reads the program as a tree and looks for what LANGUAGE.md does not allow, as far as a tree shows it. */
public final class RulesTest {
    private static final Path PROGRAM = Path.of("src/main/java/AnswerKeeper.java");
    private static final Set<String> FACE = Set.of("fold", "changed", "rule", "answer", "join", "bind", "confirm",
            "move", "melt", "vote", "told", "words", "holds", "count", "quarrel", "ask", "found", "cost", "asked");
    private static final Set<String> CONSTANTS = Set.of("NONE", "UNKNOWN", "OUTSIDE", "NOT", "FULL");
    private static final Set<Tree.Kind> FORBIDDEN = EnumSet.of(Tree.Kind.THROW, Tree.Kind.TRY, Tree.Kind.CATCH,
            Tree.Kind.SYNCHRONIZED, Tree.Kind.ASSERT, Tree.Kind.LAMBDA_EXPRESSION, Tree.Kind.MEMBER_REFERENCE,
            Tree.Kind.TYPE_CAST, Tree.Kind.INSTANCE_OF, Tree.Kind.WHILE_LOOP, Tree.Kind.DO_WHILE_LOOP,
            Tree.Kind.DIVIDE, Tree.Kind.REMAINDER, Tree.Kind.DIVIDE_ASSIGNMENT, Tree.Kind.REMAINDER_ASSIGNMENT,
            Tree.Kind.IMPORT, Tree.Kind.STRING_LITERAL);
    private static final Set<String> LIBRARY = Set.of("Math.max", "Math.min", "Integer.bitCount", "Long.bitCount");

    private final Due due = new Due();
    private final Map<String, Set<String>> calls = new HashMap<>();
    private final Set<String> faceSeen = new TreeSet<>();
    private String method = "";
    private String body = "";
    private int classes = 0;
    private int depthOfClasses = 0;

    public static void main(String[] args) throws Exception {
        new RulesTest().run();
    }

    private void run() throws Exception {
        JavaCompiler compiler = ToolProvider.getSystemJavaCompiler();
        var files = compiler.getStandardFileManager(null, null, null).getJavaFileObjects(PROGRAM);
        JavacTask task = (JavacTask) compiler.getTask(null, null, null, null, null, files);
        due.part("LANGUAGE.md");
        for (CompilationUnitTree tree : task.parse()) {
            due.is("package line", tree.getPackage() == null ? 0 : 1, 0);
            new Scan().scan(tree, null);
        }
        due.is("classes of at most 12: " + classes, classes <= 12 ? 1 : 0, 1);
        Set<String> face = new TreeSet<>(FACE);
        face.addAll(CONSTANTS);
        due.is("the face " + faceSeen, faceSeen.equals(face) ? 1 : 0, 1);
        for (String name : calls.keySet()) {
            int depth = depth(name, new ArrayList<>());
            due.is("calls from " + name + " are " + depth + " deep", depth <= 8 ? 1 : 0, 1);
        }
        for (int sign : Files.readAllBytes(PROGRAM)) {
            if (sign < 0) {
                due.is("a sign above 127", 1, 0);
            }
        }
        due.end();
    }

    /** A name stands for all methods that bear it: so the depth is told rather too great than too small. */
    private int depth(String name, List<String> open) {
        if (open.contains(name)) {
            due.is("recursion " + open + " " + name, 1, 0);
            return 0;
        }
        open.add(name);
        int deepest = 0;
        for (String callee : calls.getOrDefault(name, Set.of())) {
            if (calls.containsKey(callee)) {
                deepest = Math.max(deepest, depth(callee, open));
            }
        }
        open.remove(open.size() - 1);
        return deepest + 1;
    }

    private final class Scan extends TreeScanner<Void, Void> {
        @Override
        public Void scan(Tree tree, Void none) {
            if (tree != null && FORBIDDEN.contains(tree.getKind())) {
                due.is(method + ": " + tree.getKind() + " " + tree, 1, 0);
            }
            return super.scan(tree, none);
        }

        @Override
        public Void visitClass(ClassTree tree, Void none) {
            classes++;
            Set<Modifier> flags = tree.getModifiers().getFlags();
            boolean outer = depthOfClasses == 0;
            due.is("class " + tree.getSimpleName() + ": final, and " + (outer ? "public" : "private static"),
                    flags.equals(outer ? Set.of(Modifier.PUBLIC, Modifier.FINAL)
                            : Set.of(Modifier.PRIVATE, Modifier.STATIC, Modifier.FINAL)) ? 1 : 0, 1);
            int fields = 0;
            Set<String> privates = new HashSet<>();
            for (Tree member : tree.getMembers()) {
                if (member instanceof VariableTree) {
                    VariableTree field = (VariableTree) member;
                    Set<Modifier> own = field.getModifiers().getFlags();
                    fields += own.contains(Modifier.STATIC) ? 0 : 1;
                    checkField(field.getName().toString(), own, outer);
                } else if (member instanceof MethodTree) {
                    checkMethod((MethodTree) member, outer);
                }
            }
            due.is("fields of " + tree.getSimpleName() + ": " + fields, fields <= 20 ? 1 : 0, 1);
            depthOfClasses++;
            super.visitClass(tree, none);
            depthOfClasses--;
            return null;
        }

        private void checkField(String name, Set<Modifier> flags, boolean outer) {
            if (flags.contains(Modifier.STATIC)) {
                due.is("static " + name + " is final", flags.contains(Modifier.FINAL) ? 1 : 0, 1);
            }
            if (outer && flags.contains(Modifier.PUBLIC)) {
                faceSeen.add(name);
            } else if (outer) {
                due.is("field " + name + " is private", flags.contains(Modifier.PRIVATE) ? 1 : 0, 1);
            }
        }

        private void checkMethod(MethodTree tree, boolean outer) {
            String name = tree.getName().toString();
            due.is("parameters of " + name, tree.getParameters().size() <= 7 ? 1 : 0, 1);
            long lines = tree.toString().lines().count();
            due.is("lines of " + name + ": " + lines, lines <= 60 ? 1 : 0, 1);
            boolean open = tree.getModifiers().getFlags().contains(Modifier.PUBLIC);
            if (outer && open && !name.equals("<init>")) {
                faceSeen.add(name);
            } else if (!name.equals("<init>")) {
                due.is("no face's name: " + name, FACE.contains(name) ? 1 : 0, 0);
                due.is("private: " + name,
                        !outer || tree.getModifiers().getFlags().contains(Modifier.PRIVATE) ? 1 : 0, 1);
            }
        }

        @Override
        public Void visitMethod(MethodTree tree, Void none) {
            method = tree.getName().toString();
            body = String.valueOf(tree.getBody());
            if (method.equals("<init>")) {
                return super.visitMethod(tree, none);
            }
            calls.computeIfAbsent(method, key -> new HashSet<>());
            return super.visitMethod(tree, none);
        }

        @Override
        public Void visitMethodInvocation(MethodInvocationTree tree, Void none) {
            ExpressionTree select = tree.getMethodSelect();
            String name = select.toString();
            if (select instanceof MemberSelectTree) {
                String owner = ((MemberSelectTree) select).getExpression().toString();
                name = ((MemberSelectTree) select).getIdentifier().toString();
                if (Character.isUpperCase(owner.charAt(0))) {
                    due.is("library: " + select, LIBRARY.contains(select.toString()) ? 1 : 0, 1);
                }
            }
            calls.computeIfAbsent(method, key -> new HashSet<>()).add(name);
            return super.visitMethodInvocation(tree, none);
        }

        @Override
        public Void visitForLoop(ForLoopTree tree, Void none) {
            due.is("a bound: " + tree.getCondition(), tree.getCondition() != null
                    && tree.getCondition().toString().contains("<") && tree.getUpdate().size() == 1 ? 1 : 0, 1);
            return super.visitForLoop(tree, none);
        }

        /** An index must be held against the array's length somewhere in the same method. */
        @Override
        public Void visitArrayAccess(ArrayAccessTree tree, Void none) {
            String array = tree.getExpression().toString();
            String index = tree.getIndex().toString();
            boolean looked = body.contains(index + " < " + array + ".length")
                    || body.contains(index + " >= " + array + ".length");
            due.is(method + ": index of " + tree, looked ? 1 : 0, 1);
            return super.visitArrayAccess(tree, none);
        }
    }
}
