import com.sun.source.tree.ClassTree;
import com.sun.source.tree.CompilationUnitTree;
import com.sun.source.tree.MemberReferenceTree;
import com.sun.source.tree.MethodInvocationTree;
import com.sun.source.tree.MethodTree;
import com.sun.source.tree.NewArrayTree;
import com.sun.source.tree.NewClassTree;
import com.sun.source.tree.Tree;
import com.sun.source.util.JavacTask;
import com.sun.source.util.TreePathScanner;
import com.sun.source.util.Trees;
import java.io.File;
import java.io.IOException;
import java.util.LinkedHashMap;
import java.util.LinkedHashSet;
import java.util.List;
import java.util.Map;
import java.util.Set;
import javax.lang.model.element.Element;
import javax.lang.model.element.ElementKind;
import javax.lang.model.element.Modifier;
import javax.lang.model.element.TypeElement;
import javax.tools.JavaCompiler;
import javax.tools.StandardJavaFileManager;
import javax.tools.ToolProvider;

/** Those rules of LANGUAGE.md that ask who calls whom (4, 8, 11, 12), as the compiler reads the source. */
public final class CallsTest extends TreePathScanner<Void, Void> {
    private static final Due DUE = new Due("CallsTest");
    private static final File SOURCE = new File("src/main/java/GorseGold.java");
    private static final int DEEPEST = 8;
    private static final int MOST_FIELDS = 20;
    /** What rule 4 lists, as far as the class uses it. */
    private static final Set<String> LIBRARY = Set.of("java.lang.Integer.bitCount", "java.lang.Math.max",
        "java.lang.Math.min", "java.lang.System.arraycopy", "java.util.Arrays.fill");

    private final Trees trees;
    private final Map<Element, Set<Element>> calls = new LinkedHashMap<>();
    private Element caller;

    private CallsTest(Trees trees) {
        this.trees = trees;
    }

    public static void main(String[] args) throws IOException {
        JavaCompiler compiler = ToolProvider.getSystemJavaCompiler();
        try (StandardJavaFileManager files = compiler.getStandardFileManager(null, null, null)) {
            JavacTask task = (JavacTask) compiler.getTask(null, files, null, List.of("-proc:none"), null,
                files.getJavaFileObjects(SOURCE));
            CallsTest test = new CallsTest(Trees.instance(task));
            for (CompilationUnitTree unit : task.parse()) {
                task.analyze();
                test.scan(unit, null);
            }
            test.callsEndAndStayShallow();
        }
        DUE.end();
    }

    @Override
    public Void visitClass(ClassTree tree, Void nothing) {
        TypeElement type = (TypeElement) trees.getElement(getCurrentPath());
        long fields = type.getEnclosedElements().stream().filter(CallsTest::isFieldOfObjects).count();
        DUE.holds(type + " has " + fields + " fields", fields <= MOST_FIELDS);
        return super.visitClass(tree, nothing);
    }

    private static boolean isFieldOfObjects(Element e) {
        return e.getKind() == ElementKind.FIELD && !e.getModifiers().contains(Modifier.STATIC);
    }

    @Override
    public Void visitMethod(MethodTree tree, Void nothing) {
        Element outer = caller;
        caller = trees.getElement(getCurrentPath());
        calls.put(caller, new LinkedHashSet<>());
        super.visitMethod(tree, nothing);
        caller = outer;
        return null;
    }

    @Override
    public Void visitMethodInvocation(MethodInvocationTree tree, Void nothing) {
        Element called = trees.getElement(getCurrentPath());
        if (caller != null && called.getKind() == ElementKind.METHOD) {
            calls.get(caller).add(called);
            if (!isOwn(called)) {
                DUE.holds(told(caller) + " calls " + told(called), LIBRARY.contains(told(called)));
            }
        }
        return super.visitMethodInvocation(tree, nothing);
    }

    @Override
    public Void visitMemberReference(MemberReferenceTree tree, Void nothing) {
        DUE.holds("no reference to a method: " + tree, false);
        return super.visitMemberReference(tree, nothing);
    }

    @Override
    public Void visitNewClass(NewClassTree tree, Void nothing) {
        isMadeByConstructor(tree);
        return super.visitNewClass(tree, nothing);
    }

    @Override
    public Void visitNewArray(NewArrayTree tree, Void nothing) {
        isMadeByConstructor(tree);
        return super.visitNewArray(tree, nothing);
    }

    /** Outside of methods stand only the rows of constants, made once. */
    private void isMadeByConstructor(Tree made) {
        DUE.holds(made + " is made with the object, not by a call",
            caller == null || caller.getKind() == ElementKind.CONSTRUCTOR);
    }

    private void callsEndAndStayShallow() {
        DUE.holds("methods were found", calls.size() > 36);
        for (Element method : calls.keySet()) {
            DUE.holds(told(method) + " goes " + DEEPEST + " deep at most: " + tooDeep(method, DEEPEST),
                tooDeep(method, DEEPEST).isEmpty());
        }
    }

    /** A way of calls that goes deeper than this, as that of one that calls itself does; empty if there is none. */
    private String tooDeep(Element method, int levels) {
        if (levels == 0) {
            return told(method);
        }
        for (Element called : calls.getOrDefault(method, Set.of())) {
            String way = tooDeep(called, levels - 1);
            if (!way.isEmpty()) {
                return told(method) + " > " + way;
            }
        }
        return "";
    }

    private static boolean isOwn(Element method) {
        return method.getEnclosingElement().toString().startsWith("GorseGold");
    }

    private static String told(Element method) {
        return method.getEnclosingElement() + "." + method.getSimpleName();
    }
}
