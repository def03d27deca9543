import com.sun.source.tree.AssertTree;
import com.sun.source.tree.BinaryTree;
import com.sun.source.tree.ClassTree;
import com.sun.source.tree.CompilationUnitTree;
import com.sun.source.tree.CompoundAssignmentTree;
import com.sun.source.tree.InstanceOfTree;
import com.sun.source.tree.LambdaExpressionTree;
import com.sun.source.tree.MemberReferenceTree;
import com.sun.source.tree.MemberSelectTree;
import com.sun.source.tree.MethodInvocationTree;
import com.sun.source.tree.MethodTree;
import com.sun.source.tree.NewArrayTree;
import com.sun.source.tree.NewClassTree;
import com.sun.source.tree.SynchronizedTree;
import com.sun.source.tree.ThrowTree;
import com.sun.source.tree.Tree;
import com.sun.source.tree.TryTree;
import com.sun.source.tree.TypeCastTree;
import com.sun.source.tree.VariableTree;
import com.sun.source.util.JavacTask;
import com.sun.source.util.TreePath;
import com.sun.source.util.TreePathScanner;
import com.sun.source.util.Trees;
import java.io.IOException;
import java.nio.file.Path;
import java.util.HashMap;
import java.util.List;
import java.util.Map;
import java.util.Set;
import java.util.TreeSet;
import javax.lang.model.element.Element;
import javax.lang.model.element.ElementKind;
import javax.lang.model.element.Modifier;
import javax.lang.model.type.TypeMirror;
import javax.tools.JavaCompiler;
import javax.tools.StandardJavaFileManager;
import javax.tools.ToolProvider;

/** Holds src/main/java/AgreedLog.java against the rules of LANGUAGE.md that can be read off its text. */
public final class LanguageTest extends TreePathScanner<Void, Void> {
    private static final Set<String> FACE = Set.of("begin", "careful", "timeout", "beat", "propose", "read", "hand",
        "change", "compact", "stop", "start", "link", "come", "lose", "twice", "settle", "feed", "script", "fault",
        "halted", "store", "cell", "entry", "follows", "message", "first", "linked", "alike", "grants", "electable",
        "holders", "safe", "agreed", "leaders", "leader", "wins", "then", "storm", "rounds", "could", "fragile",
        "undo", "image", "restore", "count");
    private static final Set<String> LIBRARY = Set.of("java.lang.Math.min", "java.lang.Math.max",
        "java.lang.Integer.bitCount", "java.lang.System.arraycopy", "java.util.Arrays.fill",
        "java.lang.String.length", "java.lang.String.charAt", "java.lang.Object.<init>");
    private static final Set<String> TYPES = Set.of("int", "boolean", "int[]", "java.lang.String");
    private static final int LINES = 60;
    private static final int PARAMETERS = 7;
    private static final int CLASSES = 12;
    private static final int FIELDS = 20;
    private static final int DEEP = 8;

    private final CompilationUnitTree unit;
    private final Trees trees;
    private final Map<String, Set<String>> calls = new HashMap<>();
    private final Set<String> open = new TreeSet<>();
    private final Set<String> privateStatic = new TreeSet<>();
    private final Set<String> face = new TreeSet<>();
    private final Map<String, Integer> depths = new HashMap<>();
    private int classes = 0;

    private LanguageTest(CompilationUnitTree unit, Trees trees) {
        this.unit = unit;
        this.trees = trees;
    }

    public static void main(String[] args) throws IOException {
        JavaCompiler compiler = ToolProvider.getSystemJavaCompiler();
        try (StandardJavaFileManager files = compiler.getStandardFileManager(null, null, null)) {
            JavacTask task = (JavacTask) compiler.getTask(null, files, null, List.of("-proc:none"), null,
                files.getJavaFileObjects(Path.of("src/main/java/AgreedLog.java")));
            CompilationUnitTree unit = task.parse().iterator().next();
            task.analyze();
            LanguageTest test = new LanguageTest(unit, Trees.instance(task));
            test.scan(unit, null);
            test.judge();
        }
        Check.end("LanguageTest");
    }

    private void rule(int number, boolean kept, String what, Tree at) {
        long line = at == null ? 0 : unit.getLineMap().getLineNumber(
            trees.getSourcePositions().getStartPosition(unit, at));
        Check.due("rule " + number + ": " + what + (at == null ? "" : " in line " + line), kept ? 1 : 0, 1);
    }

    private void judge() {
        rule(1, face.equals(FACE), "the face is that of the document", null);
        rule(11, classes <= CLASSES, "classes", null);
        for (String name : calls.keySet()) {
            int deep = depth(name);
            rule(11, deep <= DEEP, "calls go " + deep + " deep from " + name, null);
        }
    }

    private int depth(String name) {
        if (depths.containsKey(name)) {
            return depths.get(name);
        }
        if (!open.add(name)) {
            rule(8, false, "methods that call one another: " + open, null);
            return 0;
        }
        int deepest = 0;
        for (String called : calls.getOrDefault(name, Set.of())) {
            if (called.equals(name)) {
                rule(8, privateStatic.contains(name), "recursion is private static: " + name, null);
            } else {
                deepest = Math.max(deepest, depth(called));
            }
        }
        open.remove(name);
        depths.put(name, deepest + 1);
        return deepest + 1;
    }

    private MethodTree enclosing() {
        for (TreePath p = getCurrentPath(); p != null; p = p.getParentPath()) {
            if (p.getLeaf() instanceof MethodTree m) {
                return m;
            }
        }
        return null;
    }

    private String enclosingClass() {
        for (TreePath p = getCurrentPath(); p != null; p = p.getParentPath()) {
            if (p.getLeaf() instanceof ClassTree c) {
                return c.getSimpleName().toString();
            }
        }
        return "";
    }

    private boolean isMaking() {
        MethodTree m = enclosing();
        return m == null || m.getReturnType() == null;
    }

    private void call(Element called) {
        MethodTree m = enclosing();
        String from = enclosingClass() + "." + (m == null ? "<init>" : m.getName());
        String to = called.getEnclosingElement().getSimpleName() + "." + called.getSimpleName();
        calls.computeIfAbsent(from, k -> new TreeSet<>()).add(to);
    }

    private static boolean isOwn(Element e) {
        return e != null && (e.toString().equals("AgreedLog") || e.toString().startsWith("AgreedLog."));
    }

    private boolean isText(Tree t) {
        TypeMirror type = trees.getTypeMirror(new TreePath(getCurrentPath(), t));
        return type != null && type.toString().equals("java.lang.String");
    }

    @Override
    public Void visitCompilationUnit(CompilationUnitTree t, Void v) {
        rule(0, t.getPackageName() == null, "no package", null);
        t.getImports().forEach(i -> rule(4, i.getQualifiedIdentifier().toString().equals("java.util.Arrays"),
            "imports", i));
        return super.visitCompilationUnit(t, v);
    }

    @Override
    public Void visitClass(ClassTree t, Void v) {
        classes++;
        Set<Modifier> flags = t.getModifiers().getFlags();
        boolean outer = getCurrentPath().getParentPath().getLeaf() instanceof CompilationUnitTree;
        if (outer) {
            rule(1, flags.contains(Modifier.PUBLIC) && flags.contains(Modifier.FINAL), "public, final", t);
        } else {
            rule(2, getCurrentPath().getParentPath().getLeaf() instanceof ClassTree, "no local class", t);
            rule(2, flags.contains(Modifier.STATIC) && !flags.contains(Modifier.PUBLIC)
                && !flags.contains(Modifier.PROTECTED), "static, not public", t);
        }
        long fields = t.getMembers().stream().filter(m -> m instanceof VariableTree f
            && !f.getModifiers().getFlags().contains(Modifier.STATIC)).count();
        rule(11, fields <= FIELDS, fields + " fields", t);
        for (Tree m : t.getMembers()) {
            if (m instanceof VariableTree f) {
                checkField(f, outer);
            }
            rule(5, m.getKind() != Tree.Kind.BLOCK, "no initialiser block", m);
        }
        return super.visitClass(t, v);
    }

    private void checkField(VariableTree f, boolean outer) {
        Set<Modifier> flags = f.getModifiers().getFlags();
        if (outer && !f.getName().contentEquals("NONE")) {
            rule(1, flags.contains(Modifier.PRIVATE), "a field is private", f);
        }
        if (flags.contains(Modifier.STATIC)) {
            rule(5, flags.contains(Modifier.FINAL), "static fields are final", f);
            rule(5, Set.of("int", "String", "int[]").contains(f.getType().toString()), "of numbers or texts", f);
            rule(5, !(f.getType().toString().equals("int[]")) || f.getInitializer() instanceof NewArrayTree a
                && a.getInitializers() != null, "written out", f);
        }
    }

    @Override
    public Void visitVariable(VariableTree t, Void v) {
        Element e = trees.getElement(getCurrentPath());
        String type = e.asType().toString();
        String plain = type.endsWith("[]") ? type.substring(0, type.length() - 2) : type;
        rule(3, TYPES.contains(type) || plain.startsWith("AgreedLog"), "type " + type, t);
        return super.visitVariable(t, v);
    }

    @Override
    public Void visitMethod(MethodTree t, Void v) {
        Set<Modifier> flags = t.getModifiers().getFlags();
        String name = t.getName().toString();
        boolean outer = enclosingClass().equals("AgreedLog");
        boolean made = t.getReturnType() == null;
        if (outer && flags.contains(Modifier.PUBLIC) && !made) {
            face.add(name);
        } else if (!made) {
            rule(1, !FACE.contains(name), "bears the name of a public one: " + name, t);
            rule(1, !outer || flags.contains(Modifier.PRIVATE), "private: " + name, t);
            rule(1, !flags.contains(Modifier.PUBLIC) && !flags.contains(Modifier.PROTECTED), "public: " + name, t);
        }
        if (flags.contains(Modifier.PRIVATE) && flags.contains(Modifier.STATIC)) {
            privateStatic.add(enclosingClass() + "." + name);
        }
        rule(11, t.getParameters().size() <= PARAMETERS, "parameters of " + name, t);
        long from = trees.getSourcePositions().getStartPosition(unit, t);
        long to = trees.getSourcePositions().getEndPosition(unit, t);
        if (to > from) {
            long lines = unit.getLineMap().getLineNumber(to) - unit.getLineMap().getLineNumber(from) + 1;
            rule(11, lines <= LINES, name + " has " + lines + " lines", t);
        }
        calls.computeIfAbsent(enclosingClass() + "." + name, k -> new TreeSet<>());
        return super.visitMethod(t, v);
    }

    @Override
    public Void visitMethodInvocation(MethodInvocationTree t, Void v) {
        Element e = trees.getElement(getCurrentPath());
        if (isOwn(e.getEnclosingElement())) {
            call(e);
        } else {
            String name = e.getEnclosingElement() + "." + e.getSimpleName();
            rule(4, LIBRARY.contains(name), name, t);
            call(e);
        }
        return super.visitMethodInvocation(t, v);
    }

    @Override
    public Void visitMemberSelect(MemberSelectTree t, Void v) {
        Element e = trees.getElement(getCurrentPath());
        if (e != null && e.getKind() == ElementKind.FIELD && !t.getIdentifier().contentEquals("length")) {
            rule(4, isOwn(e.getEnclosingElement()), "a constant of the library: " + t, t);
        }
        return super.visitMemberSelect(t, v);
    }

    @Override
    public Void visitNewClass(NewClassTree t, Void v) {
        rule(12, isMaking(), "objects are made in constructors", t);
        Element e = trees.getElement(getCurrentPath());
        rule(4, isOwn(e.getEnclosingElement()), "own classes", t);
        rule(2, t.getClassBody() == null, "no anonymous class", t);
        call(e);
        return super.visitNewClass(t, v);
    }

    @Override
    public Void visitNewArray(NewArrayTree t, Void v) {
        rule(12, isMaking(), "arrays are made in constructors", t);
        rule(3, t.getDimensions().size() <= 1, "of one dimension", t);
        return super.visitNewArray(t, v);
    }

    @Override
    public Void visitBinary(BinaryTree t, Void v) {
        boolean texts = isText(t.getLeftOperand()) || isText(t.getRightOperand());
        rule(10, !texts, "texts aren't joined or compared by signs", t);
        return super.visitBinary(t, v);
    }

    @Override
    public Void visitCompoundAssignment(CompoundAssignmentTree t, Void v) {
        rule(10, !isText(t.getVariable()), "texts aren't joined", t);
        return super.visitCompoundAssignment(t, v);
    }

    @Override
    public Void visitLambdaExpression(LambdaExpressionTree t, Void v) {
        rule(2, false, "no lambda", t);
        return null;
    }

    @Override
    public Void visitMemberReference(MemberReferenceTree t, Void v) {
        rule(2, false, "no method reference", t);
        return null;
    }

    @Override
    public Void visitThrow(ThrowTree t, Void v) {
        rule(6, false, "no throw", t);
        return null;
    }

    @Override
    public Void visitTry(TryTree t, Void v) {
        rule(6, false, "no try", t);
        return null;
    }

    @Override
    public Void visitSynchronized(SynchronizedTree t, Void v) {
        rule(6, false, "no synchronized", t);
        return null;
    }

    @Override
    public Void visitAssert(AssertTree t, Void v) {
        rule(6, false, "no assert", t);
        return null;
    }

    @Override
    public Void visitInstanceOf(InstanceOfTree t, Void v) {
        rule(6, false, "no need of instanceof", t);
        return null;
    }

    @Override
    public Void visitTypeCast(TypeCastTree t, Void v) {
        rule(6, false, "no need of a cast", t);
        return null;
    }
}
