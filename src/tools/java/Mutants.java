import com.sun.source.tree.*;
import com.sun.source.util.JavacTask;
import com.sun.source.util.SourcePositions;
import com.sun.source.util.TreePathScanner;
import com.sun.source.util.Trees;
import java.io.ByteArrayOutputStream;
import java.io.OutputStream;
import java.io.PrintStream;
import java.net.URI;
import java.nio.file.Files;
import java.nio.file.Path;
import java.util.ArrayList;
import java.util.HashMap;
import java.util.List;
import java.util.Map;
import java.util.concurrent.ExecutorService;
import java.util.concurrent.Executors;
import java.util.concurrent.Future;
import java.util.concurrent.TimeUnit;
import java.util.concurrent.TimeoutException;
import javax.tools.FileObject;
import javax.tools.ForwardingJavaFileManager;
import javax.tools.JavaFileManager;
import javax.tools.JavaFileObject;
import javax.tools.SimpleJavaFileObject;
import javax.tools.ToolProvider;

/**
 * Breaks the program at one place at a time and tells which breaks EdgesTest does not see: all breaks, or, as the
 * second argument says, every so many-th. By hand, as README.md says. Those that are told want a look: most do the same
 * as the program (a guard that no call can reach).
 */
public final class Mutants {
    private static final Path PROGRAM = Path.of("src/main/java/AnswerKeeper.java");
    private static final int SECONDS = 120;

    private record Edit(long from, long to, String text) {
    }

    private final String source;
    private final Path classes;
    private final List<Edit> edits = new ArrayList<>();

    private Mutants(Path classes) throws Exception {
        this.classes = classes;
        this.source = Files.readString(PROGRAM);
    }

    public static void main(String[] args) throws Exception {
        PrintStream out = System.out;
        System.setOut(new PrintStream(OutputStream.nullOutputStream()));
        Mutants all = new Mutants(Path.of(args[0]));
        all.find();
        List<Edit> tried = all.each(args.length > 1 ? Integer.parseInt(args[1]) : 1);
        int alive = all.run(tried, out);
        out.println(tried.size() + " breaks, " + alive + " not seen");
        System.exit(0);
    }

    private List<Edit> each(int step) {
        List<Edit> some = new ArrayList<>();
        for (int i = 0; i < edits.size(); i += Math.max(step, 1)) {
            some.add(edits.get(i));
        }
        return some;
    }

    private int run(List<Edit> tried, PrintStream out) throws Exception {
        ExecutorService workers = Executors.newFixedThreadPool(6, Mutants::daemon);
        ExecutorService watched = Executors.newCachedThreadPool(Mutants::daemon);
        List<Future<String>> results = new ArrayList<>();
        for (Edit edit : tried) {
            results.add(workers.submit(() -> result(edit, watched)));
        }
        int alive = 0;
        for (int i = 0; i < tried.size(); i++) {
            String result = results.get(i).get();
            if (!result.equals("seen")) {
                alive++;
                out.println(told(tried.get(i)) + "   " + result);
            }
        }
        return alive;
    }

    private static Thread daemon(Runnable work) {
        Thread thread = new Thread(work);
        thread.setDaemon(true);
        return thread;
    }

    private String told(Edit edit) {
        String ahead = source.substring(0, (int) edit.from);
        long line = ahead.lines().count();
        String was = source.substring((int) edit.from, (int) edit.to).replaceAll("\\s+", " ");
        int start = source.lastIndexOf('\n', (int) edit.from) + 1;
        String whole = source.substring(start, source.indexOf('\n', start)).strip();
        return line + ": " + was + " -> " + edit.text + "   in: " + whole;
    }

    private String result(Edit edit, ExecutorService watched) throws Exception {
        Map<String, byte[]> made = compile(source.substring(0, (int) edit.from) + edit.text
                + source.substring((int) edit.to));
        if (made == null) {
            return "seen";
        }
        Future<String> running = watched.submit(() -> wrongOnes(made));
        try {
            return running.get(SECONDS, TimeUnit.SECONDS);
        } catch (TimeoutException e) {
            return "seen";
        }
    }

    private String wrongOnes(Map<String, byte[]> made) throws Exception {
        try {
            ClassLoader loader = new Loader(made);
            Class<?> dueClass = loader.loadClass("Due");
            var make = dueClass.getDeclaredConstructor(int.class);
            make.setAccessible(true);
            var run = loader.loadClass("EdgesTest").getDeclaredMethod("run", dueClass);
            run.setAccessible(true);
            run.invoke(null, make.newInstance(0));
            return "NOT SEEN";
        } catch (java.lang.reflect.InvocationTargetException e) {
            return "seen";
        }
    }

    private final class Loader extends ClassLoader {
        private final Map<String, byte[]> made;

        Loader(Map<String, byte[]> made) {
            super(ClassLoader.getPlatformClassLoader());
            this.made = made;
        }

        @Override
        protected Class<?> findClass(String name) throws ClassNotFoundException {
            try {
                byte[] bytes = made.containsKey(name) ? made.get(name)
                        : Files.readAllBytes(classes.resolve(name + ".class"));
                return defineClass(name, bytes, 0, bytes.length);
            } catch (java.io.IOException e) {
                throw new ClassNotFoundException(name, e);
            }
        }
    }

    private static Map<String, byte[]> compile(String text) {
        var compiler = ToolProvider.getSystemJavaCompiler();
        Map<String, ByteArrayOutputStream> streams = new HashMap<>();
        JavaFileManager files = new ForwardingJavaFileManager<JavaFileManager>(
                compiler.getStandardFileManager(d -> { }, null, null)) {
            @Override
            public JavaFileObject getJavaFileForOutput(Location where, String name, JavaFileObject.Kind kind,
                    FileObject near) {
                return new SimpleJavaFileObject(URI.create("mem:///" + name + ".class"), kind) {
                    @Override
                    public OutputStream openOutputStream() {
                        ByteArrayOutputStream stream = new ByteArrayOutputStream();
                        streams.put(name, stream);
                        return stream;
                    }
                };
            }
        };
        JavaFileObject program = new SimpleJavaFileObject(URI.create("mem:///AnswerKeeper.java"),
                JavaFileObject.Kind.SOURCE) {
            @Override
            public CharSequence getCharContent(boolean ignored) {
                return text;
            }
        };
        boolean right = compiler.getTask(null, files, d -> { }, null, null, List.of(program)).call();
        Map<String, byte[]> made = new HashMap<>();
        streams.forEach((name, stream) -> made.put(name, stream.toByteArray()));
        return right ? made : null;
    }

    private void find() throws Exception {
        var compiler = ToolProvider.getSystemJavaCompiler();
        var manager = compiler.getStandardFileManager(null, null, null);
        JavacTask task = (JavacTask) compiler.getTask(null, manager, null, null, null,
                manager.getJavaFileObjects(PROGRAM));
        SourcePositions at = Trees.instance(task).getSourcePositions();
        for (CompilationUnitTree unit : task.parse()) {
            new Finder(unit, at).scan(unit, null);
        }
    }

    private final class Finder extends TreePathScanner<Void, Void> {
        private static final Map<String, List<String>> OTHERS = Map.ofEntries(Map.entry("<", List.of("<=")),
                Map.entry("<=", List.of("<")), Map.entry(">", List.of(">=")), Map.entry(">=", List.of(">")),
                Map.entry("==", List.of("!=")), Map.entry("!=", List.of("==")), Map.entry("&&", List.of("||")),
                Map.entry("||", List.of("&&")), Map.entry("+", List.of("-")), Map.entry("-", List.of("+")),
                Map.entry("*", List.of("+")), Map.entry("&", List.of("|")), Map.entry("|", List.of("&")),
                Map.entry("^", List.of("|", "&")), Map.entry("<<", List.of(">>")));
        private final CompilationUnitTree unit;
        private final SourcePositions at;

        Finder(CompilationUnitTree unit, SourcePositions at) {
            this.unit = unit;
            this.at = at;
        }

        private long from(Tree tree) {
            return at.getStartPosition(unit, tree);
        }

        private long to(Tree tree) {
            return at.getEndPosition(unit, tree);
        }

        private String text(Tree tree) {
            return source.substring((int) from(tree), (int) to(tree));
        }

        private void edit(Tree tree, String text) {
            edits.add(new Edit(from(tree), to(tree), text));
        }

        @Override
        public Void visitBinary(BinaryTree tree, Void none) {
            long from = to(tree.getLeftOperand());
            long to = from(tree.getRightOperand());
            String between = source.substring((int) from, (int) to);
            String sign = between.replaceAll("[()\\s]", "");
            for (String other : OTHERS.getOrDefault(sign, List.of())) {
                edits.add(new Edit(from, to, between.replace(sign, other)));
            }
            return super.visitBinary(tree, none);
        }

        @Override
        public Void visitUnary(UnaryTree tree, Void none) {
            if (tree.getKind() == Tree.Kind.BITWISE_COMPLEMENT || tree.getKind() == Tree.Kind.LOGICAL_COMPLEMENT) {
                edit(tree, text(tree.getExpression()));
            } else if (tree.getKind() == Tree.Kind.POSTFIX_INCREMENT
                    && !(getCurrentPath().getParentPath().getParentPath().getLeaf() instanceof ForLoopTree)) {
                edit(tree, text(tree.getExpression()) + "--");
            }
            return super.visitUnary(tree, none);
        }

        @Override
        public Void visitCompoundAssignment(CompoundAssignmentTree tree, Void none) {
            edit(tree, text(tree.getVariable()) + " = " + text(tree.getExpression()));
            return super.visitCompoundAssignment(tree, none);
        }

        @Override
        public Void visitLiteral(LiteralTree tree, Void none) {
            if (tree.getKind() == Tree.Kind.INT_LITERAL) {
                int value = (Integer) tree.getValue();
                edit(tree, "" + (value + 1));
                edit(tree, "(" + (value - 1) + ")");
            } else if (tree.getKind() == Tree.Kind.BOOLEAN_LITERAL) {
                edit(tree, tree.getValue().equals(true) ? "false" : "true");
            }
            return super.visitLiteral(tree, none);
        }

        @Override
        public Void visitMethodInvocation(MethodInvocationTree tree, Void none) {
            String name = text(tree.getMethodSelect());
            if (name.equals("Math.min") || name.equals("Math.max")) {
                edit(tree.getMethodSelect(), name.equals("Math.min") ? "Math.max" : "Math.min");
            }
            List<? extends ExpressionTree> given = tree.getArguments();
            for (int i = 0; i + 1 < given.size(); i++) {
                String between = source.substring((int) to(given.get(i)), (int) from(given.get(i + 1)));
                edits.add(new Edit(from(given.get(i)), to(given.get(i + 1)),
                        text(given.get(i + 1)) + between + text(given.get(i))));
            }
            return super.visitMethodInvocation(tree, none);
        }

        @Override
        public Void visitReturn(ReturnTree tree, Void none) {
            String value = tree.getExpression() == null ? "" : text(tree.getExpression());
            List<String> refusals = List.of("UNKNOWN", "OUTSIDE", "NOT", "FULL", "NONE");
            if (refusals.contains(value)) {
                edit(tree.getExpression(), refusals.get((refusals.indexOf(value) + 1) % 5));
            }
            return super.visitReturn(tree, none);
        }

        @Override
        public Void visitIf(IfTree tree, Void none) {
            edit(tree.getCondition(), "(true)");
            edit(tree.getCondition(), "(false)");
            return super.visitIf(tree, none);
        }

        @Override
        public Void visitConditionalExpression(ConditionalExpressionTree tree, Void none) {
            edit(tree.getCondition(), "true");
            edit(tree.getCondition(), "false");
            return super.visitConditionalExpression(tree, none);
        }

        @Override
        public Void visitExpressionStatement(ExpressionStatementTree tree, Void none) {
            if (!(getCurrentPath().getParentPath().getLeaf() instanceof ForLoopTree)) {
                edit(tree, ";");
            }
            return super.visitExpressionStatement(tree, none);
        }
    }
}
