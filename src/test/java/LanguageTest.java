import com.sun.source.tree.AssertTree;
import com.sun.source.tree.BlockTree;
import com.sun.source.tree.ClassTree;
import com.sun.source.tree.CompilationUnitTree;
import com.sun.source.tree.DoWhileLoopTree;
import com.sun.source.tree.ForLoopTree;
import com.sun.source.tree.LambdaExpressionTree;
import com.sun.source.tree.LineMap;
import com.sun.source.tree.MemberReferenceTree;
import com.sun.source.tree.MethodInvocationTree;
import com.sun.source.tree.MethodTree;
import com.sun.source.tree.NewArrayTree;
import com.sun.source.tree.NewClassTree;
import com.sun.source.tree.SynchronizedTree;
import com.sun.source.tree.ThrowTree;
import com.sun.source.tree.Tree;
import com.sun.source.tree.TryTree;
import com.sun.source.tree.VariableTree;
import com.sun.source.tree.WhileLoopTree;
import com.sun.source.util.JavacTask;
import com.sun.source.util.TreePath;
import com.sun.source.util.TreePathScanner;
import com.sun.source.util.Trees;
import java.io.IOException;
import java.nio.file.Files;
import java.nio.file.Path;
import java.util.HashMap;
import java.util.LinkedHashMap;
import java.util.LinkedHashSet;
import java.util.List;
import java.util.Map;
import java.util.Random;
import java.util.Set;
import java.util.TreeSet;
import java.util.stream.Collectors;
import java.util.stream.Stream;
import javax.lang.model.element.Element;
import javax.lang.model.element.Modifier;
import javax.lang.model.element.TypeElement;
import javax.lang.model.type.ArrayType;
import javax.lang.model.type.DeclaredType;
import javax.lang.model.type.TypeKind;
import javax.lang.model.type.TypeMirror;
import javax.tools.JavaCompiler;
import javax.tools.StandardJavaFileManager;
import javax.tools.ToolProvider;

/**
 * The class keeps to ../shared/LANGUAGE.md. Where the class needs less than a rule leaves it, the test asks
 * for the narrower thing, which is plainer to see: no library, no exception, no recursion, and no object
 * made outside constructors.
 */
public final class LanguageTest {
    private static final Path MAIN = Path.of("src/main/java");
    private static final Path SOURCE = MAIN.resolve("RumourCircle.java");

    private static final int MOST_PARAMETERS = 7;
    private static final int MOST_LINES = 60;
    private static final int MOST_DEPTH = 8;
    private static final int MOST_CLASSES = 12;
    private static final int MOST_FIELDS = 20;

    // Far more than an object is used for: no call may throw in any state, not even then.
    private static final int WILD_CALLS = 20_000;
    private static final int[] WILD = {
        Integer.MIN_VALUE, -2, -1, 0, 1, 2, 3, 4, 5, 6, 7, 8, 23, 24, 25, 64, Integer.MAX_VALUE
    };

    private static final Check check = new Check();

    public static void main(String[] args) throws IOException {
        oneFile();
        Source source = new Source();
        source.read();
        source.checkClasses();
        source.checkDepth();
        noCallThrows();
        sameCallsSameAnswers();
        check.end();
    }

    private static void oneFile() throws IOException {
        check.part("\"The program is one file\"");
        try (Stream<Path> all = Files.walk(MAIN)) {
            String files = all.filter(Files::isRegularFile).map(Path::toString).sorted().collect(Collectors.joining(" "));
            check.due("the files", files, SOURCE.toString());
        }
    }

    /** What the compiler reads in the source, with the names that it has resolved. */
    private static final class Source extends TreePathScanner<Void, Void> {
        private final Map<String, Integer> fields = new LinkedHashMap<>();
        private final Map<Element, Set<Element>> calls = new LinkedHashMap<>();
        private final Set<String> faceNames = new TreeSet<>();
        private final Map<String, String> ownMethods = new LinkedHashMap<>();
        private CompilationUnitTree unit;
        private Trees trees;

        void read() throws IOException {
            JavaCompiler compiler = ToolProvider.getSystemJavaCompiler();
            try (StandardJavaFileManager files = compiler.getStandardFileManager(null, null, null)) {
                JavacTask task = (JavacTask) compiler.getTask(null, files, null, List.of("--release", "17"), null,
                        files.getJavaFileObjects(SOURCE));
                unit = task.parse().iterator().next();
                trees = Trees.instance(task);
                task.analyze();
                check.part("\"without a package line\", and no library");
                check.due("package lines", unit.getPackage() == null ? 0 : 1, 0);
                check.due("imports", unit.getImports().size(), 0);
                check.due("classes beside it", unit.getTypeDecls().size() - 1, 0);
                scan(unit, null);
            }
        }

        private void refuse(int rule, Tree tree, String what) {
            check.part("rule " + rule);
            check.due(what + " in line " + line(tree), 1, 0);
        }

        private void bound(int rule, String what, long got, long most) {
            check.part("rule " + rule);
            check.due(what + ", beyond " + most, Math.max(got - most, 0), 0);
        }

        private long line(Tree tree) {
            return unit.getLineMap().getLineNumber(trees.getSourcePositions().getStartPosition(unit, tree));
        }

        private long lines(Tree tree) {
            LineMap map = unit.getLineMap();
            return map.getLineNumber(trees.getSourcePositions().getEndPosition(unit, tree)) - line(tree) + 1;
        }

        private Element here() {
            return trees.getElement(getCurrentPath());
        }

        private boolean isOwn(Element element) {
            Element outer = element;
            while (outer.getEnclosingElement() instanceof TypeElement type) {
                outer = type;
            }
            return outer.getSimpleName().contentEquals("RumourCircle");
        }

        /** The method whose lines these are, or null. */
        private Element around() {
            for (TreePath path = getCurrentPath(); path != null; path = path.getParentPath()) {
                if (path.getLeaf() instanceof MethodTree) {
                    return trees.getElement(path);
                }
            }
            return null;
        }

        private boolean isInConstructor() {
            return around() != null && around().getSimpleName().contentEquals("<init>");
        }

        @Override
        public Void visitClass(ClassTree tree, Void none) {
            TypeElement type = (TypeElement) here();
            fields.putIfAbsent(type.toString(), 0);
            boolean isInside = getCurrentPath().getParentPath().getLeaf() != unit;
            if (isInside && !tree.getModifiers().getFlags().contains(Modifier.STATIC)) {
                refuse(2, tree, "a class that is not static, or local, or without a name");
            }
            return super.visitClass(tree, none);
        }

        @Override
        public Void visitMethod(MethodTree tree, Void none) {
            Element method = here();
            calls.putIfAbsent(method, new LinkedHashSet<>());
            bound(11, "parameters of " + method, tree.getParameters().size(), MOST_PARAMETERS);
            bound(11, "lines of " + method, lines(tree), MOST_LINES);
            if (tree.getModifiers().getFlags().contains(Modifier.PUBLIC)) {
                faceNames.add(tree.getName().toString());
            } else if (!tree.getName().contentEquals("<init>")) {
                ownMethods.put(tree.getName().toString(), method.getEnclosingElement() + "." + method);
            }
            return super.visitMethod(tree, none);
        }

        @Override
        public Void visitVariable(VariableTree tree, Void none) {
            Element variable = here();
            checkType(tree, variable.asType());
            if (variable.getKind().isField()) {
                Set<Modifier> flags = variable.getModifiers();
                if (!flags.contains(Modifier.STATIC)) {
                    fields.merge(variable.getEnclosingElement().toString(), 1, Integer::sum);
                } else if (!flags.contains(Modifier.FINAL) || !variable.asType().getKind().isPrimitive()) {
                    refuse(5, tree, "static state");
                }
            }
            return super.visitVariable(tree, none);
        }

        private void checkType(Tree tree, TypeMirror type) {
            TypeMirror part = type;
            int dimensions = 0;
            while (part.getKind() == TypeKind.ARRAY) {
                part = ((ArrayType) part).getComponentType();
                dimensions++;
            }
            boolean isWhole = part.getKind() == TypeKind.INT || part.getKind() == TypeKind.LONG
                    || part.getKind() == TypeKind.BOOLEAN;
            boolean isOwnClass = part.getKind() == TypeKind.DECLARED && isOwn(((DeclaredType) part).asElement());
            if (!isWhole && !isOwnClass || dimensions > 1) {
                refuse(3, tree, "the type " + type);
            }
        }

        @Override
        public Void visitMethodInvocation(MethodInvocationTree tree, Void none) {
            Element called = here();
            boolean isObjectsConstructor = called.getSimpleName().contentEquals("<init>");
            if (!isOwn(called) && !isObjectsConstructor) {
                refuse(4, tree, "a call of the library, " + called);
            }
            noteCall(called);
            return super.visitMethodInvocation(tree, none);
        }

        @Override
        public Void visitNewClass(NewClassTree tree, Void none) {
            Element called = here();
            if (!isOwn(called)) {
                refuse(4, tree, "an object of the library, " + called);
            }
            noteMaking(tree);
            noteCall(called);
            return super.visitNewClass(tree, none);
        }

        @Override
        public Void visitNewArray(NewArrayTree tree, Void none) {
            noteMaking(tree);
            return super.visitNewArray(tree, none);
        }

        private void noteMaking(Tree tree) {
            if (!isInConstructor()) {
                refuse(12, tree, "something made outside a constructor");
            }
        }

        private void noteCall(Element called) {
            if (around() != null && isOwn(called)) {
                calls.computeIfAbsent(around(), method -> new LinkedHashSet<>()).add(called);
            }
        }

        @Override
        public Void visitBlock(BlockTree tree, Void none) {
            if (getCurrentPath().getParentPath().getLeaf() instanceof ClassTree) {
                refuse(5, tree, "an initialiser block");
            }
            return super.visitBlock(tree, none);
        }

        @Override
        public Void visitLambdaExpression(LambdaExpressionTree tree, Void none) {
            refuse(2, tree, "a lambda");
            return super.visitLambdaExpression(tree, none);
        }

        @Override
        public Void visitMemberReference(MemberReferenceTree tree, Void none) {
            refuse(2, tree, "a method reference");
            return super.visitMemberReference(tree, none);
        }

        @Override
        public Void visitThrow(ThrowTree tree, Void none) {
            refuse(6, tree, "a throw: the document has none");
            return super.visitThrow(tree, none);
        }

        @Override
        public Void visitTry(TryTree tree, Void none) {
            refuse(6, tree, "a try: nothing throws");
            return super.visitTry(tree, none);
        }

        @Override
        public Void visitAssert(AssertTree tree, Void none) {
            refuse(6, tree, "an assert");
            return super.visitAssert(tree, none);
        }

        @Override
        public Void visitSynchronized(SynchronizedTree tree, Void none) {
            refuse(6, tree, "a synchronized block");
            return super.visitSynchronized(tree, none);
        }

        @Override
        public Void visitForLoop(ForLoopTree tree, Void none) {
            boolean isCounted = tree.getInitializer().size() == 1 && tree.getUpdate().size() == 1;
            checkLoop(tree, tree.getCondition(), isCounted);
            return super.visitForLoop(tree, none);
        }

        @Override
        public Void visitWhileLoop(WhileLoopTree tree, Void none) {
            checkLoop(tree, tree.getCondition(), true);
            return super.visitWhileLoop(tree, none);
        }

        @Override
        public Void visitDoWhileLoop(DoWhileLoopTree tree, Void none) {
            checkLoop(tree, tree.getCondition(), true);
            return super.visitDoWhileLoop(tree, none);
        }

        private void checkLoop(Tree tree, Tree condition, boolean isCounted) {
            if (!isCounted || condition == null || condition.toString().indexOf('<') < 0) {
                refuse(9, tree, "a loop without a counter against a bound");
            }
        }

        void checkClasses() {
            bound(11, "classes", fields.size(), MOST_CLASSES);
            for (Map.Entry<String, Integer> one : fields.entrySet()) {
                bound(11, "fields of " + one.getKey(), one.getValue(), MOST_FIELDS);
            }
            check.part("rule 1, \"No private method bears the name of a public one\"");
            for (Map.Entry<String, String> one : ownMethods.entrySet()) {
                check.due(one.getValue(), faceNames.contains(one.getKey()), false);
            }
        }

        void checkDepth() {
            check.part("rules 8 and 11, \"calls that are no recursion go at most eight deep\"");
            Map<Element, Integer> known = new HashMap<>();
            for (Element method : calls.keySet()) {
                int depth = depth(method, known, new LinkedHashSet<>());
                check.due("the depth of " + method + " is " + depth + ", too deep", depth > MOST_DEPTH, false);
            }
        }

        private int depth(Element method, Map<Element, Integer> known, Set<Element> open) {
            if (known.containsKey(method)) {
                return known.get(method);
            }
            check.due("recursion of " + method, open.contains(method), false);
            int deepest = 0;
            if (open.add(method)) {
                for (Element called : calls.getOrDefault(method, Set.of())) {
                    deepest = Math.max(deepest, depth(called, known, open));
                }
                open.remove(method);
            }
            known.put(method, deepest + 1);
            return deepest + 1;
        }
    }

    private static void noCallThrows() {
        check.part("rule 7, \"No call may ever throw by itself\"");
        for (int n : WILD) {
            try {
                answersOf(n, WILD_CALLS);
            } catch (RuntimeException thrown) {
                check.due("RumourCircle(" + n + ")", thrown.toString(), "no throw");
            }
        }
    }

    private static void sameCallsSameAnswers() {
        check.part("rule 13, \"the same calls always give the same answers\"");
        for (int n = 2; n <= 6; n++) {
            check.due("the answers of " + n + " nodes", answersOf(n, 512), answersOf(n, 512));
        }
    }

    /** The answers of wild calls on a new object, one number made of them all. */
    private static long answersOf(int n, int calls) {
        RumourCircle x = new RumourCircle(n);
        Random random = new Random(n);
        long answers = 0;
        for (int call = 0; call < calls; call++) {
            int a = WILD[random.nextInt(WILD.length)];
            int m = WILD[random.nextInt(WILD.length)];
            answers = answers * 31 + wildCall(x, random, a, m);
        }
        return answers;
    }

    private static long wildCall(RumourCircle x, Random random, int a, int m) {
        switch (random.nextInt(17)) {
            case 0:
                return x.period(a);
            case 1:
                return x.help(a);
            case 2:
                return x.deliver(a);
            case 3:
                return x.lose(a) ? 1 : 0;
            case 4:
                return x.round();
            case 5:
                // Seldom, so that some stay up for long.
                return random.nextInt(100) == 0 && x.stop(a) ? 1 : 0;
            case 6:
                return x.isUp(a) ? 1 : 0;
            case 7:
                return x.status(a, m);
            case 8:
                return x.incarnation(a, m);
            case 9:
                return x.timer(a, m);
            case 10:
                return x.probe(a);
            case 11:
                return x.sent(a, m);
            case 12:
                return x.flying();
            case 13:
                return x.message(a);
            case 14:
                return x.news(a, m);
            case 15:
                return x.declared(m);
            default:
                return x.doubted();
        }
    }
}
