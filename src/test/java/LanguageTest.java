import com.sun.source.tree.*;
import com.sun.source.util.JavacTask;
import com.sun.source.util.TreePath;
import com.sun.source.util.TreePathScanner;
import com.sun.source.util.Trees;
import java.nio.file.Files;
import java.nio.file.Path;
import java.util.ArrayList;
import java.util.List;
import java.util.Map;
import java.util.Set;
import java.util.TreeMap;
import java.util.TreeSet;
import javax.lang.model.element.Element;
import javax.lang.model.element.ElementKind;
import javax.lang.model.element.Modifier;
import javax.tools.JavaCompiler;
import javax.tools.StandardJavaFileManager;
import javax.tools.ToolProvider;

/**
 * The rules of ../shared/LANGUAGE.md that can be told from the source as the compiler reads it, each by its number. What the class doesn't
 * use (lists, enums, doubles ..) isn't let through here though the rules would: one who wants it adds it, with the rule in hand.
 */
public final class LanguageTest extends TreePathScanner<Void, Void> {
    private static final Path SOURCE = Path.of("src/main/java/BullStreet.java");
    private static final Set<String> LIBRARY = Set.of("Array.clone()", "java.lang.Object.Object()", "java.lang.Integer.bitCount(int)",
        "java.lang.Math.max(int,int)", "java.lang.Math.min(int,int)", "java.lang.String.charAt(int)", "java.lang.String.length()",
        "java.lang.System.arraycopy(java.lang.Object,int,java.lang.Object,int,int)", "java.util.Arrays.copyOf(int[],int)");
    /** What may not stand anywhere, and by which rule. */
    private static final Map<Tree.Kind, Integer> NOT_LEFT = Map.of(Tree.Kind.LAMBDA_EXPRESSION, 2, Tree.Kind.MEMBER_REFERENCE, 2, Tree.Kind.THROW, 6,
        Tree.Kind.TRY, 6, Tree.Kind.SYNCHRONIZED, 6, Tree.Kind.ASSERT, 6, Tree.Kind.DO_WHILE_LOOP, 9, Tree.Kind.PACKAGE, 1);
    private static final Set<Modifier> MODIFIERS = Set.of(Modifier.PUBLIC, Modifier.PRIVATE, Modifier.STATIC, Modifier.FINAL);
    private static final int MOST_CALLS = 8, MOST_LINES = 60, MOST_PARAMETERS = 7, MOST_FIELDS = 20, MOST_CLASSES = 12;

    private final Trees trees;
    private final CompilationUnitTree unit;
    private final Map<String, Set<String>> calls = new TreeMap<>();
    private final Set<String> hidden = new TreeSet<>(), sealed = new TreeSet<>();
    private String method = "";
    private int classes = 0, wrong = 0;

    private LanguageTest(Trees trees, CompilationUnitTree unit) {
        this.trees = trees;
        this.unit = unit;
    }

    private void hold(boolean holds, int rule, Object where) {
        if (holds) return;
        wrong++;
        System.out.println("rule " + rule + " isn't kept: " + where);
    }

    private long line(Tree tree, boolean last) {
        long place = last ? trees.getSourcePositions().getEndPosition(unit, tree) : trees.getSourcePositions().getStartPosition(unit, tree);
        return unit.getLineMap().getLineNumber(place);
    }

    private String typeOf(Tree tree) { return String.valueOf(trees.getTypeMirror(new TreePath(getCurrentPath(), tree))); }

    private static boolean isOwn(String type) { return type.startsWith("BullStreet"); }

    @Override
    public Void scan(Tree tree, Void nothing) {
        Integer rule = tree == null ? null : NOT_LEFT.get(tree.getKind());
        if (rule != null) hold(false, rule, tree.getKind() + " in line " + line(tree, false));
        return super.scan(tree, nothing);
    }

    @Override
    public Void visitImport(ImportTree tree, Void nothing) {
        hold(!tree.isStatic() && tree.getQualifiedIdentifier().toString().equals("java.util.Arrays"), 4, tree);
        return null;
    }

    @Override
    public Void visitClass(ClassTree tree, Void nothing) {
        Tree around = getCurrentPath().getParentPath().getLeaf();
        Set<Modifier> flags = tree.getModifiers().getFlags();
        if (around instanceof CompilationUnitTree) {
            hold(flags.equals(Set.of(Modifier.PUBLIC, Modifier.FINAL)), 1, tree.getSimpleName());
        } else {
            classes++;
            hold(around instanceof ClassTree && flags.contains(Modifier.STATIC), 2, "class in line " + line(tree, false));
            hold(!flags.contains(Modifier.PUBLIC) && !flags.contains(Modifier.PROTECTED), 1, tree.getSimpleName());
        }
        if (flags.contains(Modifier.FINAL)) sealed.add(trees.getElement(getCurrentPath()).toString());
        int fields = 0;
        for (Tree member : tree.getMembers()) {
            if (member instanceof BlockTree block) hold(!block.isStatic(), 5, "a static block");
            if (member instanceof VariableTree field && !field.getModifiers().getFlags().contains(Modifier.STATIC)) fields++;
        }
        hold(fields <= MOST_FIELDS, 11, tree.getSimpleName() + " has " + fields + " fields");
        return super.visitClass(tree, nothing);
    }

    @Override
    public Void visitModifiers(ModifiersTree tree, Void nothing) {
        hold(MODIFIERS.containsAll(tree.getFlags()) && tree.getAnnotations().isEmpty(), 6, tree);
        return super.visitModifiers(tree, nothing);
    }

    @Override
    public Void visitVariable(VariableTree tree, Void nothing) {
        Element e = trees.getElement(getCurrentPath());
        String type = e.asType().toString();
        hold(isLeft(type), 3, type + " " + tree.getName());
        if (e.getKind() == ElementKind.FIELD && e.getModifiers().contains(Modifier.STATIC)) {
            hold(e.getModifiers().contains(Modifier.FINAL), 5, tree.getName());
            hold(type.matches("int|long|boolean|char|java.lang.String") || type.matches("(int|long|char|byte)\\[\\]") && isWrittenOut(tree.getInitializer()), 5, tree.getName());
        }
        return super.visitVariable(tree, nothing);
    }

    private static boolean isLeft(String type) {
        return type.matches("(int|long|short|byte|char|boolean)(\\[\\]){0,2}|java\\.lang\\.String|BullStreet(\\.\\w+)?(\\[\\])?");
    }

    private static boolean isWrittenOut(ExpressionTree first) { return first instanceof NewArrayTree row && row.getInitializers() != null; }

    @Override
    public Void visitMethod(MethodTree tree, Void nothing) {
        Element e = trees.getElement(getCurrentPath());
        method = nameOf(e);
        calls.put(method, new TreeSet<>());
        if (e.getModifiers().contains(Modifier.PRIVATE)) hidden.add(method);
        hold(tree.getThrows().isEmpty(), 6, method);
        hold(!tree.getName().toString().matches("equals|hashCode|toString|finalize|clone"), 6, method);
        hold(tree.getReturnType() == null || isLeft(typeOf(tree.getReturnType())) || typeOf(tree.getReturnType()).equals("void"), 3, method);
        hold(tree.getParameters().size() <= MOST_PARAMETERS, 11, method);
        hold(tree.getBody() == null || line(tree, true) - line(tree, false) < MOST_LINES, 11, method + " is long");
        super.visitMethod(tree, nothing);
        method = "";
        return null;
    }

    private static String nameOf(Element e) { return e.getEnclosingElement() + "." + e; }

    private void called(Element e) {
        String name = nameOf(e);
        if (!isOwn(name)) hold(LIBRARY.contains(name), 4, name + " in " + method);
        else if (!method.isEmpty()) calls.get(method).add(name);
    }

    @Override
    public Void visitMethodInvocation(MethodInvocationTree tree, Void nothing) {
        called(trees.getElement(new TreePath(getCurrentPath(), tree.getMethodSelect())));
        return super.visitMethodInvocation(tree, nothing);
    }

    @Override
    public Void visitNewClass(NewClassTree tree, Void nothing) {
        hold(tree.getClassBody() == null, 2, "a class without a name in line " + line(tree, false));
        called(trees.getElement(getCurrentPath()));
        return super.visitNewClass(tree, nothing);
    }

    @Override
    public Void visitLiteral(LiteralTree tree, Void nothing) {
        if (tree.getValue() instanceof String text) hold(text.chars().allMatch(sign -> sign > 0 && sign < 128), 4, tree);
        if (tree.getValue() instanceof Character sign) hold(sign > 0 && sign < 128, 4, tree);
        return super.visitLiteral(tree, nothing);
    }

    @Override
    public Void visitTypeCast(TypeCastTree tree, Void nothing) {
        hold(typeOf(tree.getType()).matches("int|long|short|byte|char"), 6, "a cast in " + method + ": " + tree);
        return super.visitTypeCast(tree, nothing);
    }

    @Override
    public Void visitBinary(BinaryTree tree, Void nothing) {
        boolean texts = typeOf(tree.getLeftOperand()).startsWith("java.") || typeOf(tree.getRightOperand()).startsWith("java.");
        hold(!texts, tree.getKind() == Tree.Kind.PLUS ? 10 : 6, tree);
        return super.visitBinary(tree, nothing);
    }

    @Override
    public Void visitForLoop(ForLoopTree tree, Void nothing) {
        hold(tree.getCondition() != null && !tree.getUpdate().isEmpty(), 9, "the loop in line " + line(tree, false));
        return super.visitForLoop(tree, nothing);
    }

    @Override
    public Void visitWhileLoop(WhileLoopTree tree, Void nothing) {
        hold(tree.getCondition().toString().matches("\\(\\w+ > \\d+.*"), 9, "no counter against a bound in line " + line(tree, false));
        return super.visitWhileLoop(tree, nothing);
    }

    @Override
    public Void visitAssignment(AssignmentTree tree, Void nothing) {
        changed(tree.getVariable());
        return super.visitAssignment(tree, nothing);
    }

    @Override
    public Void visitCompoundAssignment(CompoundAssignmentTree tree, Void nothing) {
        changed(tree.getVariable());
        return super.visitCompoundAssignment(tree, nothing);
    }

    @Override
    public Void visitUnary(UnaryTree tree, Void nothing) {
        if (tree.getKind().name().matches(".*(INCREMENT|DECREMENT)")) changed(tree.getExpression());
        return super.visitUnary(tree, nothing);
    }

    private void changed(ExpressionTree target) {
        TreePath path = new TreePath(getCurrentPath(), target);
        while (path.getLeaf() instanceof ArrayAccessTree access) path = new TreePath(path, access.getExpression());
        Element e = trees.getElement(path);
        hold(e == null || !e.getModifiers().contains(Modifier.STATIC), 5, "changed in " + method + ": " + target);
    }

    /** The longest chain of calls from a method on, each method once in it, and which methods come back to themselves. */
    private List<String> longest(String from, List<String> open) {
        List<String> best = new ArrayList<>();
        open.add(from);
        for (String next : calls.getOrDefault(from, Set.of())) {
            int at = open.indexOf(next);
            if (at >= 0) {
                for (String each : open.subList(at, open.size())) hold(hidden.contains(each), 8, each + " calls itself, and isn't private");
                continue;
            }
            List<String> found = longest(next, open);
            if (found.size() > best.size()) best = found;
        }
        open.remove(open.size() - 1);
        best.add(0, from);
        return best;
    }

    private void whole() {
        hold(classes <= MOST_CLASSES, 11, classes + " classes");
        for (String each : calls.keySet()) {
            List<String> chain = longest(each, new ArrayList<>());
            hold(chain.size() <= MOST_CALLS, 11, "deeper than " + MOST_CALLS + ": " + chain);
            String owner = each.substring(0, each.lastIndexOf('.', each.indexOf('(')));
            if (each.startsWith(owner + "." + owner.substring(owner.lastIndexOf('.') + 1) + "(")) hold(sealed.contains(owner), 12, each + " may call what another class has changed");
        }
    }

    public static void main(String[] args) throws Exception {
        JavaCompiler compiler = ToolProvider.getSystemJavaCompiler();
        try (StandardJavaFileManager files = compiler.getStandardFileManager(null, null, null)) {
            JavacTask task = (JavacTask) compiler.getTask(null, files, null, List.of("-proc:none"), null, files.getJavaFileObjects(SOURCE));
            CompilationUnitTree unit = task.parse().iterator().next();
            task.analyze();
            LanguageTest test = new LanguageTest(Trees.instance(task), unit);
            test.hold(Files.readString(SOURCE).chars().allMatch(sign -> sign < 128), 4, "a sign past 127");
            test.hold(unit.getTypeDecls().size() == 1, 1, "one class in the file");
            test.scan(unit, null);
            test.whole();
            System.out.println(test.wrong == 0 ? test.calls.size() + " methods keep to the rules" : test.wrong + " rules are not kept");
            if (test.wrong != 0) System.exit(1);
        }
    }
}
