import com.sun.source.tree.AssertTree;
import com.sun.source.tree.BinaryTree;
import com.sun.source.tree.BlockTree;
import com.sun.source.tree.ClassTree;
import com.sun.source.tree.CompilationUnitTree;
import com.sun.source.tree.CompoundAssignmentTree;
import com.sun.source.tree.DoWhileLoopTree;
import com.sun.source.tree.ForLoopTree;
import com.sun.source.tree.ImportTree;
import com.sun.source.tree.LambdaExpressionTree;
import com.sun.source.tree.LiteralTree;
import com.sun.source.tree.MemberReferenceTree;
import com.sun.source.tree.MethodInvocationTree;
import com.sun.source.tree.MethodTree;
import com.sun.source.tree.NewClassTree;
import com.sun.source.tree.StatementTree;
import com.sun.source.tree.SynchronizedTree;
import com.sun.source.tree.ThrowTree;
import com.sun.source.tree.Tree;
import com.sun.source.tree.TryTree;
import com.sun.source.tree.TypeCastTree;
import com.sun.source.tree.VariableTree;
import com.sun.source.tree.WhileLoopTree;
import com.sun.source.util.JavacTask;
import com.sun.source.util.TreePath;
import com.sun.source.util.TreePathScanner;
import com.sun.source.util.Trees;
import java.io.File;
import java.util.ArrayList;
import java.util.List;
import java.util.Set;
import java.util.TreeMap;
import java.util.TreeSet;
import javax.lang.model.element.Element;
import javax.lang.model.element.ElementKind;
import javax.lang.model.element.Modifier;
import javax.lang.model.element.VariableElement;
import javax.lang.model.type.TypeKind;
import javax.lang.model.type.TypeMirror;
import javax.tools.JavaCompiler;
import javax.tools.StandardJavaFileManager;
import javax.tools.ToolProvider;

/**
 * The rules of LANGUAGE.md, read from the source as javac sees it. What the rules allow and the
 * class does not use (try, casts of objects, recursion, lists of numbers) is refused here too:
 * it is plainer to look for, and who needs it one day changes this test with it.
 */
public final class LanguageTest extends TreePathScanner<Void, Void> {
    private static final String SOURCE = "src/main/java/TimerLedger.java";
    private static final int MOST_PARAMETERS = 7;
    private static final int MOST_LINES = 60;
    private static final int MOST_CALLS_DEEP = 8;
    private static final int MOST_CLASSES = 12;
    private static final int MOST_FIELDS = 20;

    private static final Set<String> IMPORTS = Set.of("java.util.ArrayList", "java.util.Arrays");
    private static final Set<String> CALLS = Set.of(
        "java.lang.StringBuilder.append(char)", "java.lang.StringBuilder.append(int)", "java.lang.StringBuilder.setLength(int)",
        "java.lang.StringBuilder.length()", "java.lang.StringBuilder.charAt(int)",
        "java.util.ArrayList.add(E)", "java.util.ArrayList.add(int,E)", "java.util.ArrayList.get(int)", "java.util.ArrayList.size()",
        "java.util.ArrayList.isEmpty()", "java.util.ArrayList.clear()",
        "java.lang.Math.max(int,int)", "java.lang.Math.min(int,int)", "java.util.Arrays.fill(int[],int)");
    private static final Set<String> THROWN = Set.of("IllegalStateException", "IllegalArgumentException", "IndexOutOfBoundsException",
        "ArithmeticException", "UnsupportedOperationException", "NoSuchElementException", "RuntimeException");
    private static final Set<String> MADE = Set.of("java.util.ArrayList", "java.lang.StringBuilder");
    private static final Set<String> TYPES = Set.of("int", "long", "short", "byte", "char", "boolean", "double", "float", "void",
        "int[]", "java.lang.String", "java.lang.StringBuilder");
    private static final Set<String> CONSTANTS = Set.of("int", "long", "boolean", "char", "java.lang.String");

    private final Check check;
    private final Trees trees;
    private final CompilationUnitTree unit;
    private final TreeMap<String, TreeSet<String>> callsOf = new TreeMap<>();
    private final TreeSet<String> publicNames = new TreeSet<>();
    private final TreeSet<String> privateNames = new TreeSet<>();
    private int classes = 0;
    private int loops = 0;

    private LanguageTest(Check check, Trees trees, CompilationUnitTree unit) {
        this.check = check;
        this.trees = trees;
        this.unit = unit;
    }

    public static void main(String[] args) throws Exception {
        Check check = new Check();
        JavaCompiler compiler = ToolProvider.getSystemJavaCompiler();
        try (StandardJavaFileManager files = compiler.getStandardFileManager(null, null, null)) {
            JavacTask task = (JavacTask) compiler.getTask(null, files, null, List.of("-proc:none"), null, files.getJavaFileObjects(new File(SOURCE)));
            CompilationUnitTree unit = task.parse().iterator().next();
            task.analyze();
            LanguageTest test = new LanguageTest(check, Trees.instance(task), unit);
            test.scan(unit, null);
            test.checkTheWhole();
        }
        check.end();
    }

    private void checkTheWhole() {
        rule("one file without a package line", unit.getPackage() == null && unit.getTypeDecls().size() == 1, unit.getTypeDecls().get(0));
        rule("11: some twelve classes", classes <= MOST_CLASSES, unit);
        privateNames.retainAll(publicNames);
        check.same("LANGUAGE.md, rule 1: private methods that bear the name of a public one", privateNames, new TreeSet<String>());
        for (String method : callsOf.keySet()) {
            int deep = callsDeep(method, 0);
            check.same("LANGUAGE.md, rules 8 and 11: " + method + " goes " + deep + " calls deep", deep <= MOST_CALLS_DEEP, true);
        }
        // That the walk went through the class at all.
        check.same("methods were looked at", callsOf.containsKey("TimerLedger.pass(int)") && loops > 0, true);
    }

    /** How many calls stand open at most, this one included; a recursion is far too deep. */
    private int callsDeep(String method, int above) {
        int deepest = 1;
        if (above <= MOST_CALLS_DEEP) {
            for (String called : callsOf.getOrDefault(method, new TreeSet<>())) {
                deepest = Math.max(deepest, 1 + callsDeep(called, above + 1));
            }
        }
        return deepest;
    }

    private void rule(String rule, boolean kept, Tree where) {
        if (!kept) {
            long line = unit.getLineMap().getLineNumber(trees.getSourcePositions().getStartPosition(unit, where));
            check.report("LANGUAGE.md, rule " + rule + ": line " + line + " does not keep to it");
        }
    }

    private void refuse(String what, Tree where) {
        rule("that leaves out " + what, false, where);
    }

    private Element elementOf(Tree tree) {
        return trees.getElement(new TreePath(getCurrentPath(), tree));
    }

    private TypeMirror typeOf(Tree tree) {
        return trees.getTypeMirror(new TreePath(getCurrentPath(), tree));
    }

    private static boolean isOwn(String type) {
        return type.equals("TimerLedger") || type.startsWith("TimerLedger.");
    }

    /** A method as callsOf and CALLS name it. */
    private static String nameOf(Element method) {
        String owner = method.getEnclosingElement().toString().replaceAll("<.*>", "");
        // Where javac finds some methods of a StringBuilder.
        return owner.replace("AbstractStringBuilder", "StringBuilder") + "." + method;
    }

    // ---- classes, fields and methods

    @Override
    public Void visitImport(ImportTree tree, Void none) {
        rule("4: the library", !tree.isStatic() && IMPORTS.contains(tree.getQualifiedIdentifier().toString()), tree);
        return super.visitImport(tree, none);
    }

    @Override
    public Void visitClass(ClassTree tree, Void none) {
        classes++;
        Element element = trees.getElement(getCurrentPath());
        Set<Modifier> due = element.getEnclosingElement().getKind() == ElementKind.PACKAGE
            ? Set.of(Modifier.PUBLIC, Modifier.FINAL) : Set.of(Modifier.PRIVATE, Modifier.STATIC, Modifier.FINAL);
        rule("2: classes inside", element.getKind() == ElementKind.CLASS && element.getModifiers().equals(due), tree);
        int fields = 0;
        for (Tree member : tree.getMembers()) {
            if (member instanceof BlockTree) {
                refuse("initialiser blocks (5)", member);
            }
            Element field = trees.getElement(new TreePath(getCurrentPath(), member));
            if (field instanceof VariableElement && field.getModifiers().contains(Modifier.STATIC)) {
                checkConstant((VariableElement) field, member);
            } else if (field instanceof VariableElement) {
                fields++;
            }
        }
        rule("11: some twenty fields", fields <= MOST_FIELDS, tree);
        return super.visitClass(tree, none);
    }

    private void checkConstant(VariableElement field, Tree where) {
        boolean constant = field.getModifiers().contains(Modifier.FINAL) && field.getConstantValue() != null;
        rule("5: static fields are constants", constant && CONSTANTS.contains(field.asType().toString()), where);
        rule("1: no other public member", field.getModifiers().contains(Modifier.PRIVATE), where);
    }

    @Override
    public Void visitVariable(VariableTree tree, Void none) {
        String type = trees.getTypeMirror(getCurrentPath()).toString();
        boolean listOfOwn = type.startsWith("java.util.ArrayList<TimerLedger.");
        rule("3: types", TYPES.contains(type) || isOwn(type) || listOfOwn, tree);
        return super.visitVariable(tree, none);
    }

    @Override
    public Void visitMethod(MethodTree tree, Void none) {
        Element element = trees.getElement(getCurrentPath());
        rule("11: seven parameters", tree.getParameters().size() <= MOST_PARAMETERS, tree);
        long first = unit.getLineMap().getLineNumber(trees.getSourcePositions().getStartPosition(unit, tree));
        long last = unit.getLineMap().getLineNumber(trees.getSourcePositions().getEndPosition(unit, tree));
        rule("11: some sixty lines", last - first < MOST_LINES, tree);
        callsOf.put(nameOf(element), new TreeSet<>());
        String name = tree.getName().toString();
        if (element.getModifiers().contains(Modifier.PUBLIC)) {
            publicNames.add(name);
        } else if (!name.equals("<init>")) {
            privateNames.add(name);
        }
        return super.visitMethod(tree, none);
    }

    /** The method round the present tree, or null in a field's initialiser. */
    private MethodTree methodAround() {
        for (TreePath path = getCurrentPath(); path != null; path = path.getParentPath()) {
            if (path.getLeaf() instanceof MethodTree) {
                return (MethodTree) path.getLeaf();
            }
        }
        return null;
    }

    private void called(Element method) {
        MethodTree from = methodAround();
        if (from != null) {
            Element caller = trees.getElement(trees.getPath(unit, from));
            callsOf.computeIfAbsent(nameOf(caller), name -> new TreeSet<>()).add(nameOf(method));
        }
    }

    // ---- calls, new objects and exceptions

    @Override
    public Void visitMethodInvocation(MethodInvocationTree tree, Void none) {
        Element method = trees.getElement(getCurrentPath());
        MethodTree from = methodAround();
        boolean superCall = method.getKind() == ElementKind.CONSTRUCTOR;
        if (!superCall && isOwn(method.getEnclosingElement().toString())) {
            rule("12: a constructor calls no method", from == null || from.getReturnType() != null, tree);
            called(method);
        } else if (!superCall) {
            rule("4: the library", CALLS.contains(nameOf(method)), tree);
        }
        return super.visitMethodInvocation(tree, none);
    }

    @Override
    public Void visitNewClass(NewClassTree tree, Void none) {
        Element constructor = trees.getElement(getCurrentPath());
        String made = constructor.getEnclosingElement().toString().replaceAll("<.*>", "");
        boolean thrown = getCurrentPath().getParentPath().getLeaf() instanceof ThrowTree;
        rule("4: the library", thrown || isOwn(made) || MADE.contains(made), tree);
        rule("2: no anonymous class is needed", tree.getClassBody() == null, tree);
        if (isOwn(made)) {
            called(constructor);
        }
        return super.visitNewClass(tree, none);
    }

    @Override
    public Void visitThrow(ThrowTree tree, Void none) {
        boolean made = tree.getExpression() instanceof NewClassTree;
        rule("6: throw new E(..)", made, tree);
        if (made) {
            NewClassTree thrown = (NewClassTree) tree.getExpression();
            rule("6: exceptions", THROWN.contains(thrown.getIdentifier().toString()), tree);
            boolean text = thrown.getArguments().size() == 1 && thrown.getArguments().get(0) instanceof LiteralTree;
            rule("6: a written text", thrown.getArguments().isEmpty() || text, tree);
        }
        MethodTree from = methodAround();
        rule("6: no throw in a constructor", from != null && from.getReturnType() != null, tree);
        return super.visitThrow(tree, none);
    }

    @Override
    public Void visitTry(TryTree tree, Void none) {
        refuse("try, of which the class needs none (6)", tree);
        return super.visitTry(tree, none);
    }

    @Override
    public Void visitSynchronized(SynchronizedTree tree, Void none) {
        refuse("synchronized (6)", tree);
        return super.visitSynchronized(tree, none);
    }

    @Override
    public Void visitAssert(AssertTree tree, Void none) {
        refuse("assert (6)", tree);
        return super.visitAssert(tree, none);
    }

    @Override
    public Void visitLambdaExpression(LambdaExpressionTree tree, Void none) {
        refuse("lambdas (2)", tree);
        return super.visitLambdaExpression(tree, none);
    }

    @Override
    public Void visitMemberReference(MemberReferenceTree tree, Void none) {
        refuse("method references (2)", tree);
        return super.visitMemberReference(tree, none);
    }

    // ---- loops and arithmetic

    @Override
    public Void visitWhileLoop(WhileLoopTree tree, Void none) {
        checkLoop(tree.getCondition(), tree);
        return super.visitWhileLoop(tree, none);
    }

    @Override
    public Void visitDoWhileLoop(DoWhileLoopTree tree, Void none) {
        checkLoop(tree.getCondition(), tree);
        return super.visitDoWhileLoop(tree, none);
    }

    @Override
    public Void visitForLoop(ForLoopTree tree, Void none) {
        checkLoop(tree.getCondition(), tree);
        return super.visitForLoop(tree, none);
    }

    /** Each loop compares a counter with a bound in its head. */
    private void checkLoop(Tree condition, StatementTree loop) {
        loops++;
        List<Tree> comparisons = new ArrayList<>();
        if (condition != null) {
            new TreePathScanner<Void, Void>() {
                @Override
                public Void visitBinary(BinaryTree tree, Void none) {
                    if (Set.of(Tree.Kind.LESS_THAN, Tree.Kind.LESS_THAN_EQUAL, Tree.Kind.GREATER_THAN, Tree.Kind.GREATER_THAN_EQUAL).contains(tree.getKind())) {
                        comparisons.add(tree);
                    }
                    return super.visitBinary(tree, none);
                }
            }.scan(new TreePath(getCurrentPath(), condition), null);
        }
        rule("9: every loop has an end", !comparisons.isEmpty(), loop);
    }

    @Override
    public Void visitBinary(BinaryTree tree, Void none) {
        TypeMirror left = typeOf(tree.getLeftOperand());
        TypeMirror right = typeOf(tree.getRightOperand());
        boolean texts = left.toString().equals("java.lang.String") || right.toString().equals("java.lang.String");
        rule("10: no texts joined or compared by an operator", !texts, tree);
        boolean floats = isFloat(left) || isFloat(right);
        rule("3: doubles and floats", !floats || tree.getKind() != Tree.Kind.REMAINDER, tree);
        if (tree.getKind() == Tree.Kind.DIVIDE || tree.getKind() == Tree.Kind.REMAINDER) {
            rule("7: a divisor before it divides", floats || isLooked(tree.getRightOperand()), tree);
        }
        return super.visitBinary(tree, none);
    }

    private static boolean isFloat(TypeMirror type) {
        return type.getKind() == TypeKind.FLOAT || type.getKind() == TypeKind.DOUBLE;
    }

    /** A constant other than 0, or a divisor of which a name stands in a comparison with 0 in the same method. */
    private boolean isLooked(Tree divisor) {
        Element element = elementOf(divisor);
        if (element instanceof VariableElement && ((VariableElement) element).getConstantValue() != null) {
            return !((VariableElement) element).getConstantValue().equals(0);
        }
        String name = divisor.toString().replaceAll("[^a-zA-Z]", "");
        return methodAround() != null && methodAround().toString().contains("if (" + name + " <= 0)");
    }

    @Override
    public Void visitCompoundAssignment(CompoundAssignmentTree tree, Void none) {
        boolean divides = tree.getKind() == Tree.Kind.DIVIDE_ASSIGNMENT || tree.getKind() == Tree.Kind.REMAINDER_ASSIGNMENT;
        rule("7: a divisor before it divides", !divides, tree);
        rule("10: no texts joined by an operator", !typeOf(tree.getVariable()).toString().equals("java.lang.String"), tree);
        return super.visitCompoundAssignment(tree, none);
    }

    @Override
    public Void visitTypeCast(TypeCastTree tree, Void none) {
        rule("7: casts of numbers alone", typeOf(tree.getType()).getKind().isPrimitive() && typeOf(tree.getExpression()).getKind().isPrimitive(), tree);
        return super.visitTypeCast(tree, none);
    }

    @Override
    public Void visitLiteral(LiteralTree tree, Void none) {
        if (tree.getValue() instanceof String) {
            boolean plain = ((String) tree.getValue()).chars().allMatch(sign -> sign >= 1 && sign <= 127);
            rule("4: the signs of constants are 1 to 127", plain, tree);
        }
        return super.visitLiteral(tree, none);
    }
}
