import com.sun.source.tree.AssertTree;
import com.sun.source.tree.BinaryTree;
import com.sun.source.tree.ClassTree;
import com.sun.source.tree.CompilationUnitTree;
import com.sun.source.tree.ImportTree;
import com.sun.source.tree.LambdaExpressionTree;
import com.sun.source.tree.LineMap;
import com.sun.source.tree.MemberReferenceTree;
import com.sun.source.tree.MethodInvocationTree;
import com.sun.source.tree.MethodTree;
import com.sun.source.tree.NewArrayTree;
import com.sun.source.tree.NewClassTree;
import com.sun.source.tree.SynchronizedTree;
import com.sun.source.tree.ThrowTree;
import com.sun.source.tree.Tree;
import com.sun.source.tree.TryTree;
import com.sun.source.tree.TypeCastTree;
import com.sun.source.tree.VariableTree;
import com.sun.source.util.JavacTask;
import com.sun.source.util.SourcePositions;
import com.sun.source.util.TreePath;
import com.sun.source.util.TreePathScanner;
import com.sun.source.util.Trees;
import java.io.File;
import java.lang.reflect.Constructor;
import java.lang.reflect.Field;
import java.lang.reflect.Method;
import java.lang.reflect.Modifier;
import java.util.ArrayList;
import java.util.Arrays;
import java.util.LinkedHashMap;
import java.util.LinkedHashSet;
import java.util.List;
import java.util.Map;
import java.util.Set;
import java.util.TreeSet;
import javax.lang.model.element.Element;
import javax.lang.model.element.ExecutableElement;
import javax.lang.model.element.TypeElement;
import javax.tools.JavaCompiler;
import javax.tools.StandardJavaFileManager;
import javax.tools.ToolProvider;

/** The rules of ../shared/LANGUAGE.md that can be looked at from outside, for src/main/java/LadderStreet.java. */
public final class Rules {
    private static final String FILE = "src/main/java/LadderStreet.java";
    private static final Set<String> FACE = new TreeSet<>(Arrays.asList("int feed(int,int,int,int,int)", "int back(int)",
        "int read()", "int place()", "int person(int,int)", "int rung(int,int)", "int can(int,int)",
        "boolean send(int,int)", "boolean mend(int)", "int bucket(int)", "int minutes(int)", "boolean undo()",
        "int inTheWay(int,int)", "int errands()", "int past(int,int,int,int)", "int alone(int,int)", "int reach(int)",
        "int above(int)", "int driest(int)", "int parts(int,int)", "int least(int,int)", "int homes(int,int)",
        "int share(int,int)", "int enough()", "int news(int,int)", "int pairs(int)", "int kept(int)",
        "int waits(int,int)", "int crowd(int,int)", "int free(int)", "int meet(int,int,int)", "int mendFirst()",
        "int then(int,int,int)", "int year(int,int)", "int tell(int,boolean)", "int forget()", "int trod(int,int)",
        "int ask(int)", "boolean hold(int)", "boolean restore(int)", "int count(int)"));
    private static final Set<String> LIBRARY = new TreeSet<>(Arrays.asList("java.lang.String.length",
        "java.lang.String.charAt", "java.lang.Math.max", "java.lang.Math.min", "java.lang.Math.abs",
        "java.lang.Integer.bitCount", "java.lang.System.arraycopy", "java.util.Arrays.fill", "java.lang.Object.<init>"));
    private static final Set<String> MADE = new TreeSet<>(Arrays.asList("Reader", "Town", "Moment", "Shelf", "Course",
        "Ways", "Looks", "Homes", "Rumours", "Laws", "Tokens"));
    private static int wrong = 0;

    public static void main(String[] args) throws Exception {
        lookAtFace();
        lookAtSource();
        System.out.println(wrong == 0 ? "all rules that are looked at are kept" : wrong + " rules are broken");
        if (wrong != 0) {
            System.exit(1);
        }
    }

    private static void must(boolean kept, String rule) {
        if (!kept) {
            wrong++;
            System.out.println("rule " + rule);
        }
    }

    private static void lookAtFace() {
        Class<?> c = LadderStreet.class;
        must(Modifier.isPublic(c.getModifiers()) && Modifier.isFinal(c.getModifiers()), "1: the class is public and final");
        Set<String> face = new TreeSet<>();
        Set<String> names = new TreeSet<>();
        for (Method m : c.getDeclaredMethods()) {
            if (Modifier.isPrivate(m.getModifiers())) {
                continue;
            }
            must(Modifier.isPublic(m.getModifiers()) && !Modifier.isStatic(m.getModifiers()), "1: " + m);
            List<String> types = new ArrayList<>();
            for (Class<?> type : m.getParameterTypes()) {
                types.add(type.getSimpleName());
            }
            face.add(m.getReturnType().getSimpleName() + " " + m.getName() + "(" + String.join(",", types) + ")");
            names.add(m.getName());
        }
        must(face.equals(FACE), "1: the methods are " + face);
        Constructor<?>[] constructors = c.getDeclaredConstructors();
        must(constructors.length == 1 && Modifier.isPublic(constructors[0].getModifiers())
            && constructors[0].getParameterCount() == 0, "1: one public constructor");
        for (Field f : c.getDeclaredFields()) {
            must(Modifier.isPrivate(f.getModifiers()) || f.getName().equals("NONE"), "1: " + f);
        }
        List<Class<?>> all = new ArrayList<>(Arrays.asList(c.getDeclaredClasses()));
        must(all.size() <= 12, "11: " + all.size() + " classes");
        for (Class<?> inner : all) {
            must(Modifier.isStatic(inner.getModifiers()) && !Modifier.isPublic(inner.getModifiers()), "2: " + inner);
            for (Method m : inner.getDeclaredMethods()) {
                must(!names.contains(m.getName()), "1: the name of a public method: " + m);
            }
        }
        all.add(c);
        for (Class<?> one : all) {
            int fields = 0;
            for (Field f : one.getDeclaredFields()) {
                must(!Modifier.isStatic(f.getModifiers()) || Modifier.isFinal(f.getModifiers()), "5: " + f);
                fields += Modifier.isStatic(f.getModifiers()) ? 0 : 1;
            }
            must(fields <= 20, "11: " + fields + " fields in " + one);
        }
    }

    private static void lookAtSource() throws Exception {
        JavaCompiler compiler = ToolProvider.getSystemJavaCompiler();
        StandardJavaFileManager files = compiler.getStandardFileManager(null, null, null);
        JavacTask task = (JavacTask) compiler.getTask(null, files, null, List.of("-proc:none"), null,
            files.getJavaFileObjects(new File(FILE)));
        CompilationUnitTree unit = task.parse().iterator().next();
        task.analyze();
        Trees trees = Trees.instance(task);
        for (ImportTree i : unit.getImports()) {
            must(i.getQualifiedIdentifier().toString().equals("java.util.Arrays"), "4: " + i);
        }
        Scanner scanner = new Scanner(trees, unit);
        scanner.scan(unit, null);
        for (Map.Entry<String, Set<String>> e : scanner.calls.entrySet()) {
            lookAtRecursion(e.getKey(), scanner);
            must(depth(e.getKey(), scanner.calls, new LinkedHashSet<>()) <= 8,
                "11: calls go too deep from " + e.getKey() + ": " + depth(e.getKey(), scanner.calls, new LinkedHashSet<>()));
        }
    }

    /** A method that calls itself must be private and static, methods that call one another private. */
    private static void lookAtRecursion(String method, Scanner scanner) {
        Set<javax.lang.model.element.Modifier> flags = scanner.flags.getOrDefault(method, Set.of());
        boolean isPrivate = flags.contains(javax.lang.model.element.Modifier.PRIVATE);
        boolean isStatic = flags.contains(javax.lang.model.element.Modifier.STATIC);
        Set<String> calls = scanner.calls.getOrDefault(method, Set.of());
        must(!calls.contains(method) || isPrivate && isStatic, "8: calls itself, not private static: " + method);
        Set<String> reached = new LinkedHashSet<>();
        for (String to : calls) {
            addReached(to, scanner.calls, reached);
        }
        must(!reached.contains(method) || isPrivate, "8: recursion, not private: " + method);
    }

    private static void addReached(String from, Map<String, Set<String>> calls, Set<String> reached) {
        if (reached.add(from)) {
            for (String to : calls.getOrDefault(from, Set.of())) {
                addReached(to, calls, reached);
            }
        }
    }

    /** How many calls stand open at once at most, a method that stands open already counted once. */
    private static int depth(String from, Map<String, Set<String>> calls, Set<String> open) {
        if (!open.add(from)) {
            return 0;
        }
        int deepest = 0;
        for (String to : calls.getOrDefault(from, Set.of())) {
            if (!open.contains(to)) {
                deepest = Math.max(deepest, depth(to, calls, open));
            }
        }
        open.remove(from);
        return deepest + 1;
    }

    private static final class Scanner extends TreePathScanner<Void, Void> {
        final Map<String, Set<String>> calls = new LinkedHashMap<>();
        final Map<String, Set<javax.lang.model.element.Modifier>> flags = new LinkedHashMap<>();
        private final Trees trees;
        private final SourcePositions places;
        private final CompilationUnitTree unit;
        private final LineMap lines;
        private String method = "";

        Scanner(Trees trees, CompilationUnitTree unit) {
            this.trees = trees;
            this.places = trees.getSourcePositions();
            this.unit = unit;
            this.lines = unit.getLineMap();
        }

        private long line(Tree t) {
            return lines.getLineNumber(places.getStartPosition(unit, t));
        }

        private void never(Tree t, String rule) {
            must(false, rule + ", line " + line(t));
        }

        private static String name(Element e) {
            return ((TypeElement) e.getEnclosingElement()).getQualifiedName() + "." + e.getSimpleName();
        }

        @Override
        public Void visitMethod(MethodTree m, Void v) {
            Element e = trees.getElement(getCurrentPath());
            method = name(e);
            calls.putIfAbsent(method, new LinkedHashSet<>());
            flags.put(method, e.getModifiers());
            long from = lines.getLineNumber(places.getStartPosition(unit, m));
            long till = lines.getLineNumber(places.getEndPosition(unit, m));
            must(till - from < 60, "11: " + method + " has " + (till - from + 1) + " lines");
            must(m.getParameters().size() <= 7, "11: " + method + " takes " + m.getParameters().size());
            super.visitMethod(m, v);
            method = "";
            return null;
        }

        @Override
        public Void visitMethodInvocation(MethodInvocationTree m, Void v) {
            Element e = trees.getElement(new TreePath(getCurrentPath(), m.getMethodSelect()));
            if (e instanceof ExecutableElement) {
                String to = name(e);
                if (to.startsWith("LadderStreet.")) {
                    calls.computeIfAbsent(method, k -> new LinkedHashSet<>()).add(to);
                } else {
                    must(LIBRARY.contains(to), "4: " + to + ", line " + line(m));
                }
            }
            return super.visitMethodInvocation(m, v);
        }

        @Override
        public Void visitNewClass(NewClassTree n, Void v) {
            must(n.getClassBody() == null && MADE.contains(n.getIdentifier().toString()), "2: line " + line(n));
            must(method.isEmpty() || method.endsWith("<init>"), "12: an object made by a call, line " + line(n));
            return super.visitNewClass(n, v);
        }

        @Override
        public Void visitNewArray(NewArrayTree n, Void v) {
            must(method.isEmpty() || method.endsWith("<init>"), "12: a row made by a call, line " + line(n));
            return super.visitNewArray(n, v);
        }

        @Override
        public Void visitBinary(BinaryTree b, Void v) {
            String left = String.valueOf(trees.getTypeMirror(new TreePath(getCurrentPath(), b.getLeftOperand())));
            must(b.getKind() != Tree.Kind.PLUS || !left.equals("java.lang.String"), "10: texts joined, line " + line(b));
            return super.visitBinary(b, v);
        }

        @Override
        public Void visitTypeCast(TypeCastTree t, Void v) {
            must(List.of("int", "byte", "char", "long").contains(t.getType().toString()), "6: a cast, line " + line(t));
            return super.visitTypeCast(t, v);
        }

        @Override
        public Void visitVariable(VariableTree t, Void v) {
            must(!t.getType().toString().contains("float") && !t.getType().toString().contains("double"), "3: " + t);
            return super.visitVariable(t, v);
        }

        @Override
        public Void visitThrow(ThrowTree t, Void v) {
            never(t, "6: throw");
            return super.visitThrow(t, v);
        }

        @Override
        public Void visitTry(TryTree t, Void v) {
            never(t, "6: try");
            return super.visitTry(t, v);
        }

        @Override
        public Void visitSynchronized(SynchronizedTree t, Void v) {
            never(t, "6: synchronized");
            return super.visitSynchronized(t, v);
        }

        @Override
        public Void visitAssert(AssertTree t, Void v) {
            never(t, "6: assert");
            return super.visitAssert(t, v);
        }

        @Override
        public Void visitLambdaExpression(LambdaExpressionTree t, Void v) {
            never(t, "2: lambda");
            return super.visitLambdaExpression(t, v);
        }

        @Override
        public Void visitMemberReference(MemberReferenceTree t, Void v) {
            never(t, "2: method reference");
            return super.visitMemberReference(t, v);
        }

        @Override
        public Void visitClass(ClassTree t, Void v) {
            must(t.getKind() == Tree.Kind.CLASS, "2: line " + line(t));
            return super.visitClass(t, v);
        }
    }
}
