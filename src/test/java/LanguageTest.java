import com.sun.source.tree.BinaryTree;
import com.sun.source.tree.BlockTree;
import com.sun.source.tree.ClassTree;
import com.sun.source.tree.CompilationUnitTree;
import com.sun.source.tree.MethodInvocationTree;
import com.sun.source.tree.MethodTree;
import com.sun.source.tree.NewArrayTree;
import com.sun.source.tree.NewClassTree;
import com.sun.source.tree.Tree;
import com.sun.source.tree.VariableTree;
import com.sun.source.util.JavacTask;
import com.sun.source.util.TreePath;
import com.sun.source.util.TreePathScanner;
import com.sun.source.util.Trees;
import java.nio.file.Path;
import java.util.EnumSet;
import java.util.HashMap;
import java.util.HashSet;
import java.util.List;
import java.util.Map;
import java.util.Set;
import java.util.TreeSet;
import javax.lang.model.element.Element;
import javax.lang.model.element.ElementKind;
import javax.lang.model.element.Modifier;
import javax.lang.model.element.TypeElement;
import javax.tools.ToolProvider;

/** Rules of ../shared/LANGUAGE.md that can be seen in the program's tree. */
public final class LanguageTest extends TreePathScanner<Void, Void> {
    private static final Set<Tree.Kind> FORBIDDEN = EnumSet.of(Tree.Kind.THROW, Tree.Kind.TRY, Tree.Kind.CATCH,
            Tree.Kind.SYNCHRONIZED, Tree.Kind.ASSERT, Tree.Kind.LAMBDA_EXPRESSION, Tree.Kind.MEMBER_REFERENCE,
            Tree.Kind.IMPORT, Tree.Kind.PACKAGE, Tree.Kind.DOUBLE_LITERAL, Tree.Kind.FLOAT_LITERAL);
    private static final Set<String> LIBRARY = Set.of("java.lang.Math.max", "java.lang.Math.min", "java.lang.Math.abs",
            "java.lang.System.arraycopy", "java.lang.String.length", "java.lang.String.charAt");

    private final Trees trees;
    private final CompilationUnitTree unit;
    private final Map<Element, Set<Element>> calls = new HashMap<>();
    private final Set<String> publicNames = new HashSet<>();
    private final Set<String> otherNames = new TreeSet<>();
    private int classes = 0;
    private int wrong = 0;

    private LanguageTest(Trees trees, CompilationUnitTree unit) {
        this.trees = trees;
        this.unit = unit;
    }

    public static void main(String[] args) throws Exception {
        var javac = ToolProvider.getSystemJavaCompiler();
        try (var files = javac.getStandardFileManager(null, null, null)) {
            var source = files.getJavaFileObjects(Path.of("src/main/java/UnevenTap.java"));
            JavacTask task = (JavacTask) javac.getTask(null, files, null, List.of("-proc:none"), null, source);
            CompilationUnitTree unit = task.parse().iterator().next();
            task.analyze();
            LanguageTest test = new LanguageTest(Trees.instance(task), unit);
            test.scan(unit, null);
            test.finish();
            System.out.println(test.classes + " classes, calls " + test.deepest() + " deep, " + test.wrong + " breaches");
            System.exit(test.wrong == 0 ? 0 : 1);
        }
    }

    private void must(boolean holds, int rule, String what) {
        if (!holds) {
            wrong++;
            System.out.println("rule " + rule + ": " + what);
        }
    }

    private long lines(Tree t) {
        var at = trees.getSourcePositions();
        var map = unit.getLineMap();
        return map.getLineNumber(at.getEndPosition(unit, t)) - map.getLineNumber(at.getStartPosition(unit, t)) + 1;
    }

    private Element element(Tree t) {
        return trees.getElement(new TreePath(getCurrentPath(), t));
    }

    @Override
    public Void scan(Tree t, Void v) {
        if (t != null) {
            must(!FORBIDDEN.contains(t.getKind()), 6, t.getKind() + " " + t);
        }
        return super.scan(t, v);
    }

    @Override
    public Void visitClass(ClassTree t, Void v) {
        classes++;
        Element e = trees.getElement(getCurrentPath());
        boolean isInside = e.getEnclosingElement().getKind() == ElementKind.CLASS;
        must(!isInside || e.getModifiers().contains(Modifier.STATIC), 2, t.getSimpleName() + " isn't static");
        long fields = t.getMembers().stream().filter(m -> m instanceof VariableTree)
                .filter(m -> !((VariableTree) m).getModifiers().getFlags().contains(Modifier.STATIC)).count();
        must(fields <= 20, 11, t.getSimpleName() + " has " + fields + " fields");
        for (Tree m : t.getMembers()) {
            must(!(m instanceof BlockTree), 5, "a block of its own in " + t.getSimpleName());
            Element member = element(m);
            if (!isInside && m instanceof VariableTree) {
                must(member.getModifiers().contains(Modifier.PUBLIC) || member.getModifiers().contains(Modifier.PRIVATE), 1,
                        member + " is to be seen");
            }
        }
        return super.visitClass(t, v);
    }

    @Override
    public Void visitMethod(MethodTree t, Void v) {
        Element e = trees.getElement(getCurrentPath());
        String name = t.getName().toString();
        boolean isOuter = e.getEnclosingElement().getEnclosingElement().getKind() != ElementKind.CLASS;
        boolean isPublic = e.getModifiers().contains(Modifier.PUBLIC);
        if (isOuter && isPublic) {
            publicNames.add(name);
        } else if (!name.equals("<init>")) {
            otherNames.add(name);
            must(!isOuter || e.getModifiers().contains(Modifier.PRIVATE), 1, name + " is to be seen");
        }
        must(t.getParameters().size() <= 7, 11, name + " takes too many");
        must(lines(t) <= 60, 11, name + " is " + lines(t) + " lines long");
        calls.putIfAbsent(e, new HashSet<>());
        return super.visitMethod(t, v);
    }

    @Override
    public Void visitVariable(VariableTree t, Void v) {
        Set<Modifier> flags = t.getModifiers().getFlags();
        must(!flags.contains(Modifier.STATIC) || flags.contains(Modifier.FINAL), 5, t.getName() + " isn't final");
        must(!t.getType().toString().matches("double|float|Object"), 3, t.toString());
        return super.visitVariable(t, v);
    }

    @Override
    public Void visitMethodInvocation(MethodInvocationTree t, Void v) {
        called(trees.getElement(new TreePath(getCurrentPath(), t.getMethodSelect())));
        return super.visitMethodInvocation(t, v);
    }

    @Override
    public Void visitNewClass(NewClassTree t, Void v) {
        must(t.getClassBody() == null, 2, "a class without a name");
        mustBeMadeAtFirst(t);
        called(trees.getElement(getCurrentPath()));
        return super.visitNewClass(t, v);
    }

    @Override
    public Void visitNewArray(NewArrayTree t, Void v) {
        mustBeMadeAtFirst(t);
        return super.visitNewArray(t, v);
    }

    /** All calls of a run share one room, so this program makes nothing but in constructors. */
    private void mustBeMadeAtFirst(Tree t) {
        Element caller = caller();
        must(caller == null || caller.getKind() == ElementKind.CONSTRUCTOR, 12, t + " is made by a call");
    }

    @Override
    public Void visitBinary(BinaryTree t, Void v) {
        String type = String.valueOf(trees.getTypeMirror(getCurrentPath()));
        must(!type.equals("java.lang.String"), 10, "texts joined by +: " + t);
        return super.visitBinary(t, v);
    }

    private void called(Element callee) {
        TypeElement owner = (TypeElement) callee.getEnclosingElement();
        String name = owner.getQualifiedName() + "." + callee.getSimpleName();
        boolean isOurs = owner.getQualifiedName().toString().startsWith("UnevenTap");
        must(isOurs || LIBRARY.contains(name) || callee.getSimpleName().contentEquals("<init>"), 4, name);
        Element caller = caller();
        if (isOurs && caller != null) {
            calls.computeIfAbsent(caller, c -> new HashSet<>()).add(callee);
        }
    }

    private Element caller() {
        for (TreePath p = getCurrentPath(); p != null; p = p.getParentPath()) {
            if (p.getLeaf() instanceof MethodTree) {
                return trees.getElement(p);
            }
        }
        return null;
    }

    private void finish() {
        must(classes <= 12, 11, classes + " classes");
        for (String name : otherNames) {
            must(!publicNames.contains(name), 1, name + " bears the name of a public method");
        }
        must(deepest() <= 8, 11, "calls go " + deepest() + " deep");
        for (Element e : calls.keySet()) {
            if (reaches(e, e, new HashSet<>())) {
                must(e.getModifiers().contains(Modifier.PRIVATE), 8, e + " calls itself and isn't private");
                must(e.toString().contains("int"), 8, e + " calls itself and carries no depth");
            }
        }
    }

    private boolean reaches(Element from, Element to, Set<Element> seen) {
        for (Element next : calls.getOrDefault(from, Set.of())) {
            if (next.equals(to) || seen.add(next) && reaches(next, to, seen)) {
                return true;
            }
        }
        return false;
    }

    private int deepest() {
        return calls.keySet().stream().mapToInt(e -> depth(e, new HashSet<>())).max().orElse(0);
    }

    /** The longest way on which no method comes twice. */
    private int depth(Element e, Set<Element> open) {
        if (!open.add(e)) {
            return 0;
        }
        int deepest = 0;
        for (Element next : calls.getOrDefault(e, Set.of())) {
            deepest = Math.max(deepest, depth(next, open));
        }
        open.remove(e);
        return deepest + 1;
    }
}
