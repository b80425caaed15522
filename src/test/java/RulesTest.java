import com.sun.source.tree.ClassTree;
import com.sun.source.tree.CompilationUnitTree;
import com.sun.source.tree.DoWhileLoopTree;
import com.sun.source.tree.ForLoopTree;
import com.sun.source.tree.InstanceOfTree;
import com.sun.source.tree.LambdaExpressionTree;
import com.sun.source.tree.MemberReferenceTree;
import com.sun.source.tree.MethodInvocationTree;
import com.sun.source.tree.MethodTree;
import com.sun.source.tree.NewClassTree;
import com.sun.source.tree.Tree;
import com.sun.source.tree.TypeCastTree;
import com.sun.source.tree.VariableTree;
import com.sun.source.util.JavacTask;
import com.sun.source.util.TreePathScanner;
import com.sun.source.util.Trees;
import java.io.File;
import java.util.HashSet;
import java.util.List;
import java.util.Map;
import java.util.Set;
import java.util.TreeMap;
import java.util.TreeSet;
import javax.lang.model.element.Element;
import javax.lang.model.element.Modifier;
import javax.lang.model.element.VariableElement;
import javax.lang.model.type.TypeMirror;
import javax.tools.JavaCompiler;
import javax.tools.StandardJavaFileManager;
import javax.tools.ToolProvider;

/**
 * The rules of LANGUAGE.md that need the compiler's own reading of the file: whom a method calls, how deep, of which
 * type a name is.
 */
public final class RulesTest extends TreePathScanner<Void, String> {
    private static final String SOURCE = "src/main/java/CrissMerger.java";
    /** Of what rule 4 lists, all that the class uses; one more is looked up there first. */
    private static final Set<String> LIBRARY = Set.of("java.lang.Math.max", "java.lang.Math.min",
            "java.lang.Integer.bitCount", "java.lang.System.arraycopy", "java.util.Arrays.fill");
    /** These carry their depth as an argument. */
    private static final Set<String> RECURSIVE = Set.of("CrissMerger.commonOf");
    private static final Set<String> PLAIN_TYPES = Set.of("int", "long", "short", "byte", "char", "boolean");
    private static final int DEEPEST = 8, PARAMETERS = 7;

    private final Trees trees;
    private final Map<String, Set<String>> calls = new TreeMap<>();
    private int wrong = 0;

    private RulesTest(Trees trees) {
        this.trees = trees;
    }

    public static void main(String[] args) throws Exception {
        JavaCompiler compiler = ToolProvider.getSystemJavaCompiler();
        StandardJavaFileManager files = compiler.getStandardFileManager(null, null, null);
        JavacTask task = (JavacTask) compiler.getTask(null, files, null, List.of("-proc:none"), null,
                files.getJavaFileObjects(new File(SOURCE)));
        CompilationUnitTree unit = task.parse().iterator().next();
        task.analyze();
        RulesTest test = new RulesTest(Trees.instance(task));
        test.scan(unit, "");
        test.checkCalls();
        System.out.println("RulesTest: " + test.calls.size() + " methods, " + test.wrong + " wrong");
        if (test.wrong != 0 || test.calls.size() < 42) {
            System.exit(1);
        }
    }

    private void say(boolean well, int rule, String what) {
        if (!well) {
            wrong++;
            System.out.println("rule " + rule + ": " + what);
        }
    }

    private static String nameOf(Element called) {
        return called.getEnclosingElement() + "." + called.getSimpleName();
    }

    private static boolean isOwn(String name) {
        return name.equals("CrissMerger") || name.startsWith("CrissMerger.");
    }

    @Override
    public Void visitClass(ClassTree tree, String within) {
        say(!tree.getSimpleName().isEmpty() && within.isEmpty(), 2, "a class within the method " + within);
        return super.visitClass(tree, "");
    }

    @Override
    public Void visitMethod(MethodTree tree, String within) {
        String name = nameOf(trees.getElement(getCurrentPath()));
        say(name.endsWith(".<init>") || !calls.containsKey(name), 8, "two methods are named " + name);
        calls.computeIfAbsent(name, n -> new TreeSet<>());
        say(tree.getParameters().size() <= PARAMETERS, 11, name + " takes more than seven");
        return super.visitMethod(tree, name);
    }

    @Override
    public Void visitMethodInvocation(MethodInvocationTree tree, String within) {
        addCall(within);
        return super.visitMethodInvocation(tree, within);
    }

    @Override
    public Void visitNewClass(NewClassTree tree, String within) {
        say(tree.getClassBody() == null, 2, "a class without a name in " + within);
        addCall(within);
        return super.visitNewClass(tree, within);
    }

    /** What is called outside a method is called as the object is made. */
    private void addCall(String within) {
        String called = nameOf(trees.getElement(getCurrentPath()));
        if (called.equals("java.lang.Object.<init>")) {
            return;
        }
        say(isOwn(called) || LIBRARY.contains(called), 4, called + " in " + within);
        calls.computeIfAbsent(within.isEmpty() ? "CrissMerger.<init>" : within, n -> new TreeSet<>()).add(called);
    }

    @Override
    public Void visitVariable(VariableTree tree, String within) {
        VariableElement variable = (VariableElement) trees.getElement(getCurrentPath());
        TypeMirror type = variable.asType();
        String bare = type.toString().replaceFirst("\\[\\]$", "");
        say(PLAIN_TYPES.contains(bare) || isOwn(bare), 3, type + " " + variable);
        if (variable.getModifiers().contains(Modifier.STATIC)) {
            say(variable.getModifiers().contains(Modifier.FINAL) && variable.getConstantValue() != null, 5,
                    variable + " is no constant");
        }
        return super.visitVariable(tree, within);
    }

    @Override
    public Void visitTypeCast(TypeCastTree tree, String within) {
        say(tree.getType().getKind() == Tree.Kind.PRIMITIVE_TYPE, 6, tree + " in " + within);
        return super.visitTypeCast(tree, within);
    }

    @Override
    public Void visitInstanceOf(InstanceOfTree tree, String within) {
        say(false, 6, tree + " in " + within + " is new: look at its cast");
        return super.visitInstanceOf(tree, within);
    }

    @Override
    public Void visitLambdaExpression(LambdaExpressionTree tree, String within) {
        say(false, 2, "a lambda in " + within);
        return super.visitLambdaExpression(tree, within);
    }

    @Override
    public Void visitMemberReference(MemberReferenceTree tree, String within) {
        say(false, 2, "a method reference in " + within);
        return super.visitMemberReference(tree, within);
    }

    @Override
    public Void visitForLoop(ForLoopTree tree, String within) {
        say(tree.getCondition() != null && !tree.getUpdate().isEmpty(), 9, "a loop without a bound in " + within);
        return super.visitForLoop(tree, within);
    }

    @Override
    public Void visitDoWhileLoop(DoWhileLoopTree tree, String within) {
        say(false, 9, "a loop in " + within + " is new: look at its end");
        return super.visitDoWhileLoop(tree, within);
    }

    private void checkCalls() {
        for (String name : calls.keySet()) {
            say(!calls.get(name).contains(name) || RECURSIVE.contains(name), 8, name + " calls itself");
            int depth = depthOf(name, new HashSet<>());
            say(depth <= DEEPEST, 11, name + " calls " + depth + " deep");
        }
    }

    /** The longest chain of calls that begins here, the library's own counted, a call of itself not. */
    private int depthOf(String name, Set<String> open) {
        if (!open.add(name)) {
            say(false, 8, "methods that call one another: " + open);
            return 0;
        }
        int deepest = 0;
        for (String called : calls.getOrDefault(name, Set.of())) {
            if (!called.equals(name)) {
                deepest = Math.max(deepest, depthOf(called, open));
            }
        }
        open.remove(name);
        return deepest + 1;
    }
}
