import com.sun.source.tree.ArrayAccessTree;
import com.sun.source.tree.AssignmentTree;
import com.sun.source.tree.BinaryTree;
import com.sun.source.tree.ClassTree;
import com.sun.source.tree.CompilationUnitTree;
import com.sun.source.tree.CompoundAssignmentTree;
import com.sun.source.tree.ConditionalExpressionTree;
import com.sun.source.tree.EnhancedForLoopTree;
import com.sun.source.tree.ExpressionTree;
import com.sun.source.tree.ForLoopTree;
import com.sun.source.tree.IdentifierTree;
import com.sun.source.tree.ImportTree;
import com.sun.source.tree.LiteralTree;
import com.sun.source.tree.MemberSelectTree;
import com.sun.source.tree.MethodInvocationTree;
import com.sun.source.tree.MethodTree;
import com.sun.source.tree.NewArrayTree;
import com.sun.source.tree.NewClassTree;
import com.sun.source.tree.Tree;
import com.sun.source.tree.UnaryTree;
import com.sun.source.tree.VariableTree;
import com.sun.source.util.JavacTask;
import com.sun.source.util.TreePath;
import com.sun.source.util.TreePathScanner;
import com.sun.source.util.TreeScanner;
import com.sun.source.util.Trees;
import java.io.IOException;
import java.net.URI;
import java.util.ArrayList;
import java.util.HashMap;
import java.util.HashSet;
import java.util.List;
import java.util.Map;
import java.util.Set;
import javax.lang.model.element.Element;
import javax.lang.model.element.ElementKind;
import javax.lang.model.element.ExecutableElement;
import javax.lang.model.element.Modifier;
import javax.lang.model.element.TypeElement;
import javax.lang.model.element.VariableElement;
import javax.lang.model.type.ArrayType;
import javax.lang.model.type.DeclaredType;
import javax.lang.model.type.TypeKind;
import javax.lang.model.type.TypeMirror;
import javax.tools.JavaCompiler;
import javax.tools.JavaFileObject;
import javax.tools.SimpleJavaFileObject;
import javax.tools.ToolProvider;

/**
 * Looks a source through for what LANGUAGE.md rules out, as far as its tree
 * tells it. It is narrower than the rules where StoneFurrows is: loops are
 * for-loops that count, and only constructors and fields make anything.
 */
final class Language extends TreePathScanner<Void, Void> {
    // by the rule that they are nearest to; a cast and a while may be in order, but are not needed
    private static final Map<Tree.Kind, Integer> RULED_OUT = Map.of(
        Tree.Kind.LAMBDA_EXPRESSION, 2, Tree.Kind.MEMBER_REFERENCE, 2,
        Tree.Kind.THROW, 6, Tree.Kind.TRY, 6, Tree.Kind.SYNCHRONIZED, 6, Tree.Kind.ASSERT, 6, Tree.Kind.TYPE_CAST, 6,
        Tree.Kind.WHILE_LOOP, 9, Tree.Kind.DO_WHILE_LOOP, 9);
    private static final Map<String, Set<String>> LIBRARY = Map.of(
        "java.lang.Object", Set.of("<init>"),
        "java.lang.String", Set.of("length", "charAt", "isEmpty", "equals", "substring", "toCharArray"),
        "java.lang.StringBuilder", Set.of("<init>", "append", "charAt", "setLength", "length", "toString"),
        "java.lang.Math", Set.of("max", "min", "abs", "floorDiv", "floorMod"),
        "java.lang.System", Set.of("arraycopy"));
    private static final int MOST_PARAMETERS = 7, MOST_LINES = 60, MOST_CLASSES = 12, MOST_FIELDS = 20, MOST_DEEP = 8;

    private final List<String> faults = new ArrayList<>();
    private final Map<ExecutableElement, Set<ExecutableElement>> calls = new HashMap<>();
    private final Trees trees;
    private final CompilationUnitTree unit;
    private int classes = 0;

    private Language(Trees trees, CompilationUnitTree unit) {
        this.trees = trees;
        this.unit = unit;
    }

    /** Each fault begins with the rule's number. */
    static List<String> faults(String source) {
        JavaCompiler compiler = ToolProvider.getSystemJavaCompiler();
        JavaFileObject file = new SimpleJavaFileObject(URI.create("string:///StoneFurrows.java"),
            JavaFileObject.Kind.SOURCE) {
            @Override
            public CharSequence getCharContent(boolean ignoreErrors) {
                return source;
            }
        };
        JavacTask task = (JavacTask) compiler.getTask(null, null, null, List.of("-proc:none"), null, List.of(file));
        try {
            CompilationUnitTree unit = task.parse().iterator().next();
            task.analyze();
            Language language = new Language(Trees.instance(task), unit);
            language.scan(new TreePath(unit), null);
            language.looksAtDepth();
            language.need(11, language.classes <= MOST_CLASSES, language.classes + " classes");
            return language.faults;
        } catch (IOException e) {
            throw new IllegalStateException(e);
        }
    }

    private void need(int rule, boolean kept, String what) {
        if (!kept) {
            faults.add(rule + ": " + what);
        }
    }

    private Element elementOf(Tree tree) {
        return trees.getElement(trees.getPath(unit, tree));
    }

    private TypeMirror typeOf(Tree tree) {
        return trees.getTypeMirror(trees.getPath(unit, tree));
    }

    private boolean isOwn(Element e) {
        return trees.getTree(e) != null;
    }

    private boolean isAllowed(TypeMirror type, int dimensions) {
        if (type.getKind() == TypeKind.ARRAY) {
            return dimensions < 2 && isAllowed(((ArrayType) type).getComponentType(), dimensions + 1);
        }
        if (type.getKind() == TypeKind.DECLARED) {
            Element e = ((DeclaredType) type).asElement();
            String name = ((TypeElement) e).getQualifiedName().toString();
            boolean isText = name.equals("java.lang.String") || name.equals("java.lang.StringBuilder");
            return dimensions < 2 && isOwn(e) || dimensions == 0 && isText;
        }
        return type.getKind().isPrimitive() || type.getKind() == TypeKind.VOID;
    }

    @Override
    public Void scan(Tree tree, Void nothing) {
        if (tree != null) {
            Integer rule = RULED_OUT.get(tree.getKind());
            need(rule == null ? 0 : rule, rule == null, "a " + tree.getKind());
        }
        return super.scan(tree, nothing);
    }

    @Override
    public Void visitImport(ImportTree tree, Void nothing) {
        need(4, false, tree.toString());
        return null;
    }

    @Override
    public Void visitClass(ClassTree tree, Void nothing) {
        classes++;
        Tree around = getCurrentPath().getParentPath().getLeaf();
        boolean isOuter = around.getKind() == Tree.Kind.COMPILATION_UNIT;
        Set<Modifier> flags = tree.getModifiers().getFlags();
        need(2, isOuter || flags.contains(Modifier.STATIC) && around instanceof ClassTree,
            tree.getSimpleName() + " stands inside and is not static");
        long fields = tree.getMembers().stream()
            .filter(m -> m instanceof VariableTree v && !v.getModifiers().getFlags().contains(Modifier.STATIC)).count();
        need(11, fields <= MOST_FIELDS, tree.getSimpleName() + " has " + fields + " fields");
        need(5, tree.getMembers().stream().noneMatch(m -> m.getKind() == Tree.Kind.BLOCK), "an initialiser block");
        return super.visitClass(tree, nothing);
    }

    @Override
    public Void visitVariable(VariableTree tree, Void nothing) {
        need(3, tree.getType() != null && isAllowed(typeOf(tree), 0), tree + " has a type of its own");
        if (tree.getModifiers().getFlags().contains(Modifier.STATIC)) {
            need(5, tree.getModifiers().getFlags().contains(Modifier.FINAL), tree + " is static and not final");
            looksAtConstant(tree);
        }
        return super.visitVariable(tree, nothing);
    }

    private void looksAtConstant(VariableTree tree) {
        String type = typeOf(tree).toString();
        boolean isArray = Set.of("int[]", "long[]", "char[]", "byte[]").contains(type);
        boolean isPlain = Set.of("int", "long", "boolean", "char", "java.lang.String").contains(type);
        boolean isWritten = tree.getInitializer() instanceof NewArrayTree made && made.getInitializers() != null;
        need(5, isPlain || isArray && isWritten, tree + " is no constant");
    }

    @Override
    public Void visitMethod(MethodTree tree, Void nothing) {
        String name = tree.getName().toString();
        need(6, !Set.of("equals", "hashCode", "toString").contains(name), name + " of its own");
        need(6, tree.getThrows().isEmpty(), name + " throws");
        need(11, tree.getParameters().size() <= MOST_PARAMETERS, name + " has too many parameters");
        long start = unit.getLineMap().getLineNumber(trees.getSourcePositions().getStartPosition(unit, tree));
        long end = unit.getLineMap().getLineNumber(trees.getSourcePositions().getEndPosition(unit, tree));
        need(11, end - start <= MOST_LINES, name + " is too long");
        if (tree.getReturnType() != null) {
            need(3, isAllowed(typeOf(tree.getReturnType()), 0), name + " answers a type of its own");
        }
        calls.computeIfAbsent((ExecutableElement) elementOf(tree), e -> new HashSet<>());
        return super.visitMethod(tree, nothing);
    }

    private void noteCall(ExecutableElement called, String what) {
        if (!isOwn(called)) {
            String owner = ((TypeElement) called.getEnclosingElement()).getQualifiedName().toString();
            boolean listed = LIBRARY.getOrDefault(owner, Set.of()).contains(called.getSimpleName().toString());
            need(4, listed, what + " is not of the library that is left");
            return;
        }
        MethodTree caller = methodAround();
        if (caller != null) {
            calls.computeIfAbsent((ExecutableElement) elementOf(caller), e -> new HashSet<>()).add(called);
        }
    }

    private MethodTree methodAround() {
        for (TreePath path = getCurrentPath(); path != null; path = path.getParentPath()) {
            if (path.getLeaf() instanceof MethodTree method) {
                return method;
            }
        }
        return null;
    }

    private boolean isInCall() {
        MethodTree method = methodAround();
        return method != null && !method.getName().contentEquals("<init>");
    }

    @Override
    public Void visitMethodInvocation(MethodInvocationTree tree, Void nothing) {
        noteCall((ExecutableElement) elementOf(tree), tree.toString());
        return super.visitMethodInvocation(tree, nothing);
    }

    @Override
    public Void visitNewClass(NewClassTree tree, Void nothing) {
        need(2, tree.getClassBody() == null, "a class without a name");
        need(12, !isInCall(), tree + " is made by a call");
        noteCall((ExecutableElement) elementOf(tree), tree.toString());
        return super.visitNewClass(tree, nothing);
    }

    @Override
    public Void visitNewArray(NewArrayTree tree, Void nothing) {
        need(12, !isInCall(), tree + " is made by a call");
        return super.visitNewArray(tree, nothing);
    }

    @Override
    public Void visitEnhancedForLoop(EnhancedForLoopTree tree, Void nothing) {
        need(9, typeOf(tree.getExpression()).getKind() == TypeKind.ARRAY, "a for over what is no array");
        return super.visitEnhancedForLoop(tree, nothing);
    }

    // a counter against a bound: it is compared, and nothing in the loop gives it another number
    @Override
    public Void visitForLoop(ForLoopTree tree, Void nothing) {
        boolean counts = tree.getInitializer().size() == 1 && tree.getInitializer().get(0) instanceof VariableTree
            && tree.getUpdate().size() == 1 && tree.getCondition() != null;
        need(9, counts, "a for that does not count: " + tree);
        if (counts) {
            String counter = ((VariableTree) tree.getInitializer().get(0)).getName().toString();
            String condition = tree.getCondition().toString();
            need(9, condition.startsWith(counter + " < ") || condition.startsWith(counter + " >= "),
                "a for without a bound: " + condition);
            need(9, !isWritten(tree.getStatement(), counter), "a for whose body moves " + counter);
        }
        return super.visitForLoop(tree, nothing);
    }

    private static boolean isWritten(Tree body, String name) {
        boolean[] found = new boolean[1];
        new TreeScanner<Void, Void>() {
            @Override
            public Void visitAssignment(AssignmentTree tree, Void nothing) {
                found[0] |= tree.getVariable().toString().equals(name);
                return super.visitAssignment(tree, nothing);
            }

            @Override
            public Void visitCompoundAssignment(CompoundAssignmentTree tree, Void nothing) {
                found[0] |= tree.getVariable().toString().equals(name);
                return super.visitCompoundAssignment(tree, nothing);
            }

            @Override
            public Void visitUnary(UnaryTree tree, Void nothing) {
                boolean steps = tree.getKind().name().endsWith("CREMENT");
                found[0] |= steps && tree.getExpression().toString().equals(name);
                return super.visitUnary(tree, nothing);
            }
        }.scan(body, null);
        return found[0];
    }

    @Override
    public Void visitBinary(BinaryTree tree, Void nothing) {
        boolean divides = tree.getKind() == Tree.Kind.DIVIDE || tree.getKind() == Tree.Kind.REMAINDER;
        need(7, !divides || isDivisor(tree.getRightOperand()), tree + " divides by what was not looked at");
        boolean texts = typeOf(tree).toString().equals("java.lang.String");
        need(10, !texts, tree + " joins texts by +");
        boolean alike = tree.getKind() == Tree.Kind.EQUAL_TO || tree.getKind() == Tree.Kind.NOT_EQUAL_TO;
        need(6, !alike || !typeOf(tree.getLeftOperand()).toString().startsWith("java.lang."), tree + " of texts");
        return super.visitBinary(tree, nothing);
    }

    @Override
    public Void visitCompoundAssignment(CompoundAssignmentTree tree, Void nothing) {
        boolean divides = tree.getKind() == Tree.Kind.DIVIDE_ASSIGNMENT
            || tree.getKind() == Tree.Kind.REMAINDER_ASSIGNMENT;
        need(7, !divides || isDivisor(tree.getExpression()), tree + " divides by what was not looked at");
        need(5, !isOfStaticArray(tree.getVariable()), tree + " changes a constant");
        return super.visitCompoundAssignment(tree, nothing);
    }

    @Override
    public Void visitAssignment(AssignmentTree tree, Void nothing) {
        need(5, !isOfStaticArray(tree.getVariable()), tree + " changes a constant");
        return super.visitAssignment(tree, nothing);
    }

    private boolean isOfStaticArray(ExpressionTree variable) {
        if (variable instanceof ArrayAccessTree access) {
            Element e = elementOf(access.getExpression());
            return e != null && e.getModifiers().contains(Modifier.STATIC);
        }
        return false;
    }

    // a number that is not 0, a constant that is none, or what a ?: around it has found to be above 0
    private boolean isDivisor(ExpressionTree divisor) {
        if (divisor instanceof LiteralTree literal) {
            return !literal.getValue().equals(0);
        }
        Element e = divisor instanceof IdentifierTree || divisor instanceof MemberSelectTree ? elementOf(divisor) : null;
        if (e instanceof VariableElement v && v.getKind() == ElementKind.FIELD && v.getConstantValue() != null) {
            return !v.getConstantValue().equals(0);
        }
        for (TreePath path = getCurrentPath(); path.getParentPath() != null; path = path.getParentPath()) {
            if (path.getParentPath().getLeaf() instanceof ConditionalExpressionTree choice
                && choice.getTrueExpression() == path.getLeaf()
                && choice.getCondition().toString().equals(divisor + " > 0")) {
                return true;
            }
        }
        return false;
    }

    private void looksAtDepth() {
        for (ExecutableElement method : calls.keySet()) {
            int deep = depth(method, new ArrayList<>());
            need(11, deep <= MOST_DEEP, method + " goes " + deep + " deep");
        }
    }

    // a call back to what is open is recursion, and is not counted again
    private int depth(ExecutableElement method, List<ExecutableElement> open) {
        int deepest = 0;
        open.add(method);
        for (ExecutableElement called : calls.getOrDefault(method, Set.of())) {
            if (open.contains(called)) {
                looksAtRecursion(called);
            } else {
                deepest = Math.max(deepest, depth(called, open));
            }
        }
        open.remove(open.size() - 1);
        return deepest + 1;
    }

    private void looksAtRecursion(ExecutableElement method) {
        boolean guarded = method.getParameters().stream().anyMatch(p -> p.getSimpleName().contentEquals("depth"));
        boolean narrow = method.getModifiers().containsAll(Set.of(Modifier.PRIVATE, Modifier.STATIC));
        if (faults.stream().noneMatch(f -> f.equals("8: " + method + " calls itself without a guard"))) {
            need(8, guarded && narrow, method + " calls itself without a guard");
        }
    }
}
