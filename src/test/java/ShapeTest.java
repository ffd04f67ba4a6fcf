import com.sun.source.tree.CatchTree;
import com.sun.source.tree.ClassTree;
import com.sun.source.tree.CompilationUnitTree;
import com.sun.source.tree.ImportTree;
import com.sun.source.tree.LambdaExpressionTree;
import com.sun.source.tree.LineMap;
import com.sun.source.tree.MemberReferenceTree;
import com.sun.source.tree.MethodInvocationTree;
import com.sun.source.tree.MethodTree;
import com.sun.source.tree.NewArrayTree;
import com.sun.source.tree.NewClassTree;
import com.sun.source.tree.ThrowTree;
import com.sun.source.tree.TryTree;
import com.sun.source.tree.TypeCastTree;
import com.sun.source.util.JavacTask;
import com.sun.source.util.SourcePositions;
import com.sun.source.util.TreePathScanner;
import com.sun.source.util.Trees;
import java.nio.file.Path;
import java.util.ArrayDeque;
import java.util.Deque;
import java.util.List;
import java.util.Map;
import java.util.Set;
import java.util.TreeMap;
import java.util.TreeSet;
import javax.lang.model.element.Element;
import javax.lang.model.element.Modifier;
import javax.tools.JavaCompiler;
import javax.tools.StandardJavaFileManager;
import javax.tools.ToolProvider;

/** The rules of the language that the compiler's own tree of the class shows: 4, 6, 8, 11, 12. */
public final class ShapeTest {
    private static final Due due = new Due();
    private static final int DEEPEST = 8;
    private static final int LONGEST = 60;
    private static final Set<String> LIBRARY = Set.of(
            "Math.max(int,int)", "Math.min(int,int)",
            "System.arraycopy(java.lang.Object,int,java.lang.Object,int,int)");

    /** Of each method of the class: what it calls. */
    private static final Map<String, Set<String>> calls = new TreeMap<>();
    private static final Set<String> openOnes = new TreeSet<>();

    public static void main(String[] args) throws Exception {
        JavaCompiler compiler = ToolProvider.getSystemJavaCompiler();
        try (StandardJavaFileManager files = compiler.getStandardFileManager(null, null, null)) {
            JavacTask task = (JavacTask) compiler.getTask(null, files, null, List.of("-proc:none"), null,
                    files.getJavaFileObjects(Path.of("src/main/java/RoomDealer.java")));
            Iterable<? extends CompilationUnitTree> units = task.parse();
            task.analyze();
            Trees trees = Trees.instance(task);
            for (CompilationUnitTree unit : units) {
                new Reader(trees, unit).scan(unit, null);
            }
        }
        due.is("methods of the face", openOnes.size(), 19);
        libraryIsWhatTheRulesList();
        callsGoEightDeep();
        due.end();
    }

    private static void libraryIsWhatTheRulesList() {
        for (Map.Entry<String, Set<String>> method : calls.entrySet()) {
            for (String called : method.getValue()) {
                boolean known = calls.containsKey(called) || LIBRARY.contains(called);
                due.is(method.getKey() + " may call " + called, known, true);
            }
        }
    }

    private static void callsGoEightDeep() {
        for (String open : openOnes) {
            int depth = depthOf(open, new ArrayDeque<>());
            due.is(open + " goes " + depth + " deep, which is " + DEEPEST + " at most", depth <= DEEPEST, true);
        }
    }

    /** Its own level and those below it, the library's too. */
    private static int depthOf(String method, Deque<String> above) {
        if (above.contains(method)) {
            due.is(method + " calls itself", true, false);
            return 0;
        }
        above.push(method);
        int below = 0;
        for (String called : calls.getOrDefault(method, Set.of())) {
            below = Math.max(below, depthOf(called, above));
        }
        above.pop();
        return below + 1;
    }

    private static final class Reader extends TreePathScanner<Void, Void> {
        private final Trees trees;
        private final CompilationUnitTree unit;
        private String method = "";
        private boolean inConstructor = false;

        Reader(Trees trees, CompilationUnitTree unit) {
            this.trees = trees;
            this.unit = unit;
        }

        private String named(Element e) {
            String owner = e.getEnclosingElement().getSimpleName().toString();
            return owner + "." + e;
        }

        private int linesOf(MethodTree m) {
            SourcePositions at = trees.getSourcePositions();
            LineMap lines = unit.getLineMap();
            return (int) (lines.getLineNumber(at.getEndPosition(unit, m))
                    - lines.getLineNumber(at.getStartPosition(unit, m)) + 1);
        }

        private void ruledOut(String what) {
            due.is(what + " in " + method, true, false);
        }

        @Override public Void visitMethod(MethodTree m, Void none) {
            Element e = trees.getElement(getCurrentPath());
            String name = named(e);
            boolean isConstructor = m.getReturnType() == null;
            calls.put(name, new TreeSet<>());
            if (!isConstructor && e.getModifiers().contains(Modifier.PUBLIC)) {
                openOnes.add(name);
            }
            due.is(name + " has " + LONGEST + " lines at most", linesOf(m) <= LONGEST, true);
            method = name;
            inConstructor = isConstructor;
            super.visitMethod(m, none);
            method = "";
            inConstructor = false;
            return null;
        }

        @Override public Void visitMethodInvocation(MethodInvocationTree call, Void none) {
            Element e = trees.getElement(getCurrentPath());
            boolean callsUpwards = call.getMethodSelect().toString().equals("super");
            if (!method.isEmpty() && !callsUpwards) {
                calls.get(method).add(named(e));
            }
            return super.visitMethodInvocation(call, none);
        }

        /** An array or object is made in a constructor or for a field, and used again by all calls. */
        private void madeHere(String what) {
            due.is(what + " is made in " + method, method.isEmpty() || inConstructor, true);
        }

        @Override public Void visitNewClass(NewClassTree made, Void none) {
            madeHere("an object");
            return super.visitNewClass(made, none);
        }

        @Override public Void visitNewArray(NewArrayTree made, Void none) {
            madeHere("an array");
            return super.visitNewArray(made, none);
        }

        @Override public Void visitTypeCast(TypeCastTree cast, Void none) {
            boolean ofNumbers = Set.of("byte", "short", "int", "long").contains(cast.getType().toString());
            due.is("a cast to " + cast.getType() + " in " + method, ofNumbers, true);
            return super.visitTypeCast(cast, none);
        }

        @Override public Void visitClass(ClassTree c, Void none) {
            due.is(c.getSimpleName() + " stands in a class, not in a method", method.isEmpty(), true);
            return super.visitClass(c, none);
        }

        @Override public Void visitImport(ImportTree t, Void none) {
            ruledOut("an import");
            return null;
        }

        @Override public Void visitLambdaExpression(LambdaExpressionTree t, Void none) {
            ruledOut("a lambda");
            return null;
        }

        @Override public Void visitMemberReference(MemberReferenceTree t, Void none) {
            ruledOut("a method reference");
            return null;
        }

        @Override public Void visitThrow(ThrowTree t, Void none) {
            ruledOut("a throw");
            return null;
        }

        @Override public Void visitTry(TryTree t, Void none) {
            ruledOut("a try");
            return null;
        }

        @Override public Void visitCatch(CatchTree t, Void none) {
            ruledOut("a catch");
            return null;
        }
    }
}
