import com.sun.source.tree.AssertTree;
import com.sun.source.tree.BinaryTree;
import com.sun.source.tree.BlockTree;
import com.sun.source.tree.ClassTree;
import com.sun.source.tree.CompilationUnitTree;
import com.sun.source.tree.DoWhileLoopTree;
import com.sun.source.tree.ExpressionTree;
import com.sun.source.tree.ForLoopTree;
import com.sun.source.tree.InstanceOfTree;
import com.sun.source.tree.LambdaExpressionTree;
import com.sun.source.tree.MemberReferenceTree;
import com.sun.source.tree.MethodInvocationTree;
import com.sun.source.tree.MethodTree;
import com.sun.source.tree.NewArrayTree;
import com.sun.source.tree.NewClassTree;
import com.sun.source.tree.SynchronizedTree;
import com.sun.source.tree.ThrowTree;
import com.sun.source.tree.Tree;
import com.sun.source.tree.TryTree;
import com.sun.source.tree.TypeCastTree;
import com.sun.source.tree.VariableTree;
import com.sun.source.tree.WhileLoopTree;
import com.sun.source.util.JavacTask;
import com.sun.source.util.TreePathScanner;
import com.sun.source.util.TreeScanner;
import com.sun.source.util.Trees;
import java.io.File;
import java.lang.reflect.Array;
import java.lang.reflect.Field;
import java.lang.reflect.Modifier;
import java.util.ArrayList;
import java.util.HashMap;
import java.util.IdentityHashMap;
import java.util.LinkedHashSet;
import java.util.List;
import java.util.Map;
import java.util.Set;
import javax.lang.model.element.Element;
import javax.lang.model.element.ElementKind;
import javax.lang.model.element.ExecutableElement;
import javax.lang.model.type.ArrayType;
import javax.lang.model.type.TypeKind;
import javax.lang.model.type.TypeMirror;
import javax.tools.JavaCompiler;
import javax.tools.StandardJavaFileManager;
import javax.tools.ToolProvider;

/** The rules of LANGUAGE.md, by their numbers, as the compiler itself understands the source. */
public final class LanguageTests extends TreePathScanner<Void, Void> {
    private static final String SOURCE = "src/main/java/TakenShade.java";

    /** What the class uses of rule 4's library; a call of anything else has to be held against the rule first. */
    private static final Set<String> LIBRARY = Set.of("java.lang.Math.max", "java.lang.Math.min",
            "java.util.Arrays.fill", "java.lang.System.arraycopy");

    private static final Check check = new Check();

    private final CompilationUnitTree unit;
    private final Trees trees;
    private final Map<String, Set<String>> calls = new HashMap<>();
    private final Set<String> publicMethods = new LinkedHashSet<>();
    private String method = "";
    /** In a constructor, or in a field's first value, which is a constructor's too. */
    private boolean isMaking = true;
    private int classes;

    private LanguageTests(CompilationUnitTree unit, Trees trees) {
        this.unit = unit;
        this.trees = trees;
    }

    public static void main(String[] args) throws Exception {
        JavaCompiler compiler = ToolProvider.getSystemJavaCompiler();
        StandardJavaFileManager files = compiler.getStandardFileManager(null, null, null);
        JavacTask task = (JavacTask) compiler.getTask(null, files, null, List.of("-proc:none"), null,
                files.getJavaFileObjects(new File(SOURCE)));
        CompilationUnitTree unit = task.parse().iterator().next();
        task.analyze();
        LanguageTests tests = new LanguageTests(unit, Trees.instance(task));
        tests.scan(unit, null);
        tests.wholeFile();
        room();
        check.end();
    }

    private void holds(int rule, Tree at, String what, boolean so) {
        long line = unit.getLineMap().getLineNumber(start(at));
        check.holds("rule " + rule + ", line " + line + ": " + what, so);
    }

    private long start(Tree tree) {
        return trees.getSourcePositions().getStartPosition(unit, tree);
    }

    private long end(Tree tree) {
        return trees.getSourcePositions().getEndPosition(unit, tree);
    }

    private void wholeFile() {
        check.holds("no package line", unit.getPackageName() == null);
        check.due("one class at the top", unit.getTypeDecls().size(), 1);
        check.holds("rule 11: some twelve classes at most, not " + classes, classes <= 12);
        check.due("all calls of the face are looked at", publicMethods.size(), 36);
        for (String name : publicMethods) {
            int deep = depth(name, new ArrayList<>());
            check.holds("rule 11: " + name + " goes " + deep + " deep", deep <= 8);
        }
    }

    /** How many calls stand open at once, the library's own too; a call that comes back to itself is told. */
    private int depth(String name, List<String> open) {
        check.holds("rule 8: " + name + " calls itself by " + open, !open.contains(name));
        if (open.contains(name)) {
            return 1;
        }
        open.add(name);
        int deepest = 0;
        for (String called : calls.getOrDefault(name, Set.of())) {
            deepest = Math.max(deepest, depth(called, open));
        }
        open.remove(open.size() - 1);
        return deepest + 1;
    }

    @Override
    public Void visitClass(ClassTree tree, Void none) {
        classes++;
        Element element = trees.getElement(getCurrentPath());
        boolean isTop = element.getSimpleName().contentEquals("TakenShade");
        holds(2, tree, "a class in a method or without a name", element.getKind() == ElementKind.CLASS && isTop
                || element.getEnclosingElement().getKind().isClass());
        holds(2, tree, "an inner class that is not static", isTop
                || element.getModifiers().contains(javax.lang.model.element.Modifier.STATIC));
        int fields = 0;
        for (Tree member : tree.getMembers()) {
            holds(5, member, "an initialiser block", !(member instanceof BlockTree));
            if (member instanceof VariableTree field && !isStatic(field)) {
                fields++;
            }
        }
        holds(11, tree, fields + " fields", fields <= 20);
        return super.visitClass(tree, none);
    }

    private static boolean isStatic(VariableTree field) {
        return field.getModifiers().getFlags().contains(javax.lang.model.element.Modifier.STATIC);
    }

    @Override
    public Void visitMethod(MethodTree tree, Void none) {
        ExecutableElement element = (ExecutableElement) trees.getElement(getCurrentPath());
        method = name(element);
        isMaking = element.getKind() == ElementKind.CONSTRUCTOR;
        boolean isPublic = element.getModifiers().contains(javax.lang.model.element.Modifier.PUBLIC);
        if (isPublic && element.getKind() == ElementKind.METHOD) {
            publicMethods.add(method);
        }
        holds(11, tree, tree.getParameters().size() + " parameters", tree.getParameters().size() <= 7);
        // The constructor that the compiler adds has no end of its own.
        long lines = end(tree) < 0 ? 0
                : unit.getLineMap().getLineNumber(end(tree)) - unit.getLineMap().getLineNumber(start(tree)) + 1;
        holds(11, tree, lines + " lines", lines <= 60);
        holds(6, tree, "throws", tree.getThrows().isEmpty());
        super.visitMethod(tree, none);
        method = "";
        isMaking = true;
        return null;
    }

    private static String name(ExecutableElement element) {
        return element.getEnclosingElement() + "." + element;
    }

    @Override
    public Void visitVariable(VariableTree tree, Void none) {
        Element element = trees.getElement(getCurrentPath());
        holds(3, tree, "a variable of " + element.asType(), isTypeAllowed(element.asType()));
        if (element.getKind() == ElementKind.FIELD && isStatic(tree)) {
            boolean isFinal = element.getModifiers().contains(javax.lang.model.element.Modifier.FINAL);
            TypeKind kind = element.asType().getKind();
            holds(5, tree, "static state", isFinal && (kind == TypeKind.INT || kind == TypeKind.LONG));
        }
        return super.visitVariable(tree, none);
    }

    /** The class uses less than rule 3 allows: numbers that are whole, rows of these, classes of its own. */
    private static boolean isTypeAllowed(TypeMirror type) {
        if (type instanceof ArrayType row) {
            return !(row.getComponentType() instanceof ArrayType) && isTypeAllowed(row.getComponentType());
        }
        boolean isNumber = type.getKind().isPrimitive() && type.getKind() != TypeKind.FLOAT
                && type.getKind() != TypeKind.DOUBLE;
        return isNumber || type.toString().startsWith("TakenShade");
    }

    @Override
    public Void visitMethodInvocation(MethodInvocationTree tree, Void none) {
        ExecutableElement element = (ExecutableElement) trees.getElement(getCurrentPath());
        String owner = element.getEnclosingElement().toString();
        boolean isOwn = owner.startsWith("TakenShade");
        boolean isSuper = owner.equals("java.lang.Object") && element.getKind() == ElementKind.CONSTRUCTOR;
        String called = owner + "." + element.getSimpleName();
        holds(4, tree, "a call of " + called, isOwn || isSuper || LIBRARY.contains(called));
        if (!isSuper) {
            calls.computeIfAbsent(method, key -> new LinkedHashSet<>()).add(name(element));
        }
        return super.visitMethodInvocation(tree, none);
    }

    // No call makes anything, so what a run makes is its objects' own room alone (room() below).
    @Override
    public Void visitNewClass(NewClassTree tree, Void none) {
        holds(2, tree, "a class without a name", tree.getClassBody() == null);
        holds(12, tree, "an object made by " + method, isMaking);
        return super.visitNewClass(tree, none);
    }

    @Override
    public Void visitNewArray(NewArrayTree tree, Void none) {
        holds(12, tree, "a row made by " + method, isMaking);
        return super.visitNewArray(tree, none);
    }

    @Override
    public Void visitForLoop(ForLoopTree tree, Void none) {
        holds(9, tree, "a loop without a bound", isBound(tree.getCondition()));
        return super.visitForLoop(tree, none);
    }

    @Override
    public Void visitWhileLoop(WhileLoopTree tree, Void none) {
        holds(9, tree, "a loop without a bound", isBound(tree.getCondition()));
        return super.visitWhileLoop(tree, none);
    }

    @Override
    public Void visitDoWhileLoop(DoWhileLoopTree tree, Void none) {
        holds(9, tree, "a loop without a bound", isBound(tree.getCondition()));
        return super.visitDoWhileLoop(tree, none);
    }

    /** Whether a condition has a number against a bound in it. */
    private static boolean isBound(ExpressionTree condition) {
        boolean[] found = new boolean[1];
        new TreeScanner<Void, Void>() {
            @Override
            public Void visitBinary(BinaryTree tree, Void none) {
                switch (tree.getKind()) {
                    case LESS_THAN: case LESS_THAN_EQUAL: case GREATER_THAN: case GREATER_THAN_EQUAL:
                        found[0] = true;
                        break;
                    default:
                        break;
                }
                return super.visitBinary(tree, none);
            }
        }.scan(condition, null);
        return found[0];
    }

    @Override
    public Void visitTypeCast(TypeCastTree tree, Void none) {
        TypeMirror type = trees.getTypeMirror(getCurrentPath());
        holds(6, tree, "a cast to " + type, type.getKind().isPrimitive());
        return super.visitTypeCast(tree, none);
    }

    @Override
    public Void visitLambdaExpression(LambdaExpressionTree tree, Void none) {
        holds(2, tree, "a lambda", false);
        return null;
    }

    @Override
    public Void visitMemberReference(MemberReferenceTree tree, Void none) {
        holds(2, tree, "a method reference", false);
        return null;
    }

    @Override
    public Void visitThrow(ThrowTree tree, Void none) {
        holds(6, tree, "throw", false);
        return null;
    }

    @Override
    public Void visitTry(TryTree tree, Void none) {
        holds(6, tree, "try", false);
        return null;
    }

    @Override
    public Void visitSynchronized(SynchronizedTree tree, Void none) {
        holds(6, tree, "synchronized", false);
        return null;
    }

    @Override
    public Void visitAssert(AssertTree tree, Void none) {
        holds(6, tree, "assert", false);
        return null;
    }

    @Override
    public Void visitInstanceOf(InstanceOfTree tree, Void none) {
        holds(6, tree, "instanceof", false);
        return null;
    }

    /** One object's room: a run has 600,000 objects and 7.3 million fields and elements, so thousands fit in it. */
    private static void room() throws Exception {
        IdentityHashMap<Object, Boolean> found = new IdentityHashMap<>();
        long parts = partsOf(new TakenShade(), found);
        check.holds("objects and rows of one TakenShade: " + found.size(), found.size() <= 60);
        check.holds("fields and elements of one TakenShade: " + parts, parts <= 1000);
        TakenShade used = Setting.FULL.make();
        used.digest();
        IdentityHashMap<Object, Boolean> later = new IdentityHashMap<>();
        check.due("fields and elements of a used one", partsOf(used, later), parts);
        check.due("objects and rows of a used one", later.size(), found.size());
    }

    private static long partsOf(Object object, IdentityHashMap<Object, Boolean> found) throws Exception {
        if (object == null || found.put(object, true) != null) {
            return 0;
        }
        long parts = 0;
        if (object.getClass().isArray()) {
            int length = Array.getLength(object);
            parts = length;
            for (int i = 0; i < length && object instanceof Object[] row; i++) {
                parts += partsOf(row[i], found);
            }
            return parts;
        }
        for (Field field : object.getClass().getDeclaredFields()) {
            if (!Modifier.isStatic(field.getModifiers())) {
                field.setAccessible(true);
                parts += 1 + (field.getType().isPrimitive() ? 0 : partsOf(field.get(object), found));
            }
        }
        return parts;
    }
}
