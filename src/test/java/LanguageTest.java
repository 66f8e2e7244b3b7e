import com.sun.source.tree.AssignmentTree;
import com.sun.source.tree.BinaryTree;
import com.sun.source.tree.BlockTree;
import com.sun.source.tree.ClassTree;
import com.sun.source.tree.CompilationUnitTree;
import com.sun.source.tree.DoWhileLoopTree;
import com.sun.source.tree.EnhancedForLoopTree;
import com.sun.source.tree.ExpressionTree;
import com.sun.source.tree.ForLoopTree;
import com.sun.source.tree.ImportTree;
import com.sun.source.tree.MemberSelectTree;
import com.sun.source.tree.MethodInvocationTree;
import com.sun.source.tree.MethodTree;
import com.sun.source.tree.NewArrayTree;
import com.sun.source.tree.NewClassTree;
import com.sun.source.tree.Tree;
import com.sun.source.tree.VariableTree;
import com.sun.source.tree.WhileLoopTree;
import com.sun.source.util.JavacTask;
import com.sun.source.util.TreePath;
import com.sun.source.util.TreePathScanner;
import com.sun.source.util.Trees;
import java.io.File;
import java.io.IOException;
import java.nio.file.Files;
import java.nio.file.Path;
import java.util.ArrayList;
import java.util.HashMap;
import java.util.HashSet;
import java.util.List;
import java.util.Map;
import java.util.Set;
import java.util.TreeMap;
import java.util.TreeSet;
import javax.lang.model.element.Element;
import javax.lang.model.element.ElementKind;
import javax.lang.model.element.ExecutableElement;
import javax.lang.model.element.Modifier;
import javax.lang.model.type.TypeMirror;
import javax.tools.JavaCompiler;
import javax.tools.StandardJavaFileManager;
import javax.tools.ToolProvider;

/** What of LANGUAGE.md can be told from the program as the compiler reads it; the argument is the file. */
public final class LanguageTest extends TreePathScanner<Void, Void> {
    private static final Set<Tree.Kind> RULED_OUT = Set.of(Tree.Kind.THROW, Tree.Kind.TRY, Tree.Kind.CATCH,
        Tree.Kind.SYNCHRONIZED, Tree.Kind.ASSERT, Tree.Kind.LAMBDA_EXPRESSION, Tree.Kind.MEMBER_REFERENCE,
        Tree.Kind.ANNOTATION, Tree.Kind.PACKAGE, Tree.Kind.UNION_TYPE,
        Tree.Kind.UNBOUNDED_WILDCARD, Tree.Kind.EXTENDS_WILDCARD, Tree.Kind.SUPER_WILDCARD);
    private static final Set<String> IMPORTS = Set.of("java.util.Arrays", "java.util.ArrayList", "java.util.List",
        "java.util.Iterator");
    /** Rule 4; of Integer, Long and Math all but those whose name ends in Exact. */
    private static final Map<String, Set<String>> LIBRARY = Map.of(
        "java.lang.String", Set.of("length", "charAt", "isEmpty", "equals", "indexOf", "substring", "toCharArray"),
        "java.lang.StringBuilder", Set.of("append", "charAt", "setCharAt", "setLength", "deleteCharAt", "reverse",
            "length", "toString"),
        "java.util.ArrayList", Set.of("add", "get", "set", "remove", "size", "isEmpty", "clear"),
        "java.util.List", Set.of("add", "get", "set", "remove", "size", "isEmpty", "clear", "of"),
        "java.lang.Integer", Set.of("compare", "max", "min", "bitCount"),
        "java.lang.Long", Set.of("compare", "max", "min", "bitCount"),
        "java.lang.Math", Set.of("max", "min", "abs", "floorDiv", "floorMod"),
        "java.lang.System", Set.of("arraycopy"),
        "java.util.Arrays", Set.of("copyOf", "copyOfRange", "fill"),
        "java.lang.Object", Set.of("clone"));
    private static final Set<String> LIBRARY_TYPES = Set.of("java.lang.String", "java.lang.StringBuilder",
        "java.lang.Integer", "java.util.ArrayList", "java.util.List");
    private static final int METHOD_LINES = 60;
    private static final int PARAMETERS = 7;
    private static final int CALLS_DEEP = 8;
    private static final int CLASSES = 12;
    private static final int FIELDS = 20;

    private final Trees trees;
    private final CompilationUnitTree unit;
    private final Map<Element, Set<Element>> calls = new HashMap<>();
    private final Map<Element, String> names = new HashMap<>();
    private final Set<String> faceMethods = new HashSet<>();
    private final List<String> privateMethods = new ArrayList<>();
    private int classes = 0;
    private ExecutableElement method = null;

    private LanguageTest(Trees trees, CompilationUnitTree unit) {
        this.trees = trees;
        this.unit = unit;
    }

    public static void main(String[] args) throws IOException {
        File file = new File(args[0]);
        signs(file.toPath());
        JavaCompiler compiler = ToolProvider.getSystemJavaCompiler();
        if (compiler == null) {
            System.out.println("LanguageTest: this java has no compiler beside it; only the signs were looked at");
            Check.end("LanguageTest");
            return;
        }
        try (StandardJavaFileManager files = compiler.getStandardFileManager(null, null, null)) {
            JavacTask task = (JavacTask) compiler.getTask(null, files, null, List.of("-proc:none"), null,
                files.getJavaFileObjects(file));
            Iterable<? extends CompilationUnitTree> units = task.parse();
            task.analyze();
            for (CompilationUnitTree unit : units) {
                LanguageTest test = new LanguageTest(Trees.instance(task), unit);
                test.scan(unit, null);
                test.namesOfPrivateMethods();
                test.recursion();
                Check.holds("rule 11: twelve classes at most: " + test.classes,
                    test.classes > 0 && test.classes <= CLASSES);
            }
        }
        Check.end("LanguageTest");
    }

    private static void signs(Path file) throws IOException {
        for (byte sign : Files.readAllBytes(file)) {
            Check.holds("rule 4: sign " + sign, sign == '\n' || sign >= ' ' && sign < 127);
        }
    }

    private void holds(String rule, boolean yes) {
        long line = unit.getLineMap().getLineNumber(start(getCurrentPath().getLeaf()));
        Check.holds(rule + ", line " + line, yes);
    }

    private long start(Tree tree) {
        return trees.getSourcePositions().getStartPosition(unit, tree);
    }

    private TypeMirror type(Tree tree) {
        return trees.getTypeMirror(new TreePath(getCurrentPath(), tree));
    }

    private boolean own(TypeMirror type) {
        String name = erased(type);
        return name.equals("SlashKinds") || name.startsWith("SlashKinds.");
    }

    private static String erased(TypeMirror type) {
        return type.toString().replaceAll("<.*>", "");
    }

    // ---- rules 3, 5, 6, 10 wherever a tree stands

    @Override
    public Void scan(Tree tree, Void nothing) {
        if (tree != null) {
            Check.holds("rules 2, 6: no " + tree.getKind() + " at " + unit.getLineMap().getLineNumber(start(tree)),
                !RULED_OUT.contains(tree.getKind()));
        }
        return super.scan(tree, nothing);
    }

    @Override
    public Void visitImport(ImportTree tree, Void nothing) {
        holds("rule 4: import of " + tree.getQualifiedIdentifier(),
            !tree.isStatic() && IMPORTS.contains(tree.getQualifiedIdentifier().toString()));
        return super.visitImport(tree, nothing);
    }

    @Override
    public Void visitBinary(BinaryTree tree, Void nothing) {
        String left = String.valueOf(type(tree.getLeftOperand()));
        String right = String.valueOf(type(tree.getRightOperand()));
        boolean texts = left.equals("java.lang.String") || right.equals("java.lang.String")
            || left.equals("java.lang.Integer") && right.equals("java.lang.Integer");
        holds("rules 6, 10: no + == != between texts", !texts);
        if (tree.getKind() == Tree.Kind.DIVIDE || tree.getKind() == Tree.Kind.REMAINDER) {
            divisor(tree);
        }
        return super.visitBinary(tree, nothing);
    }

    /** A constant that is not 0, or a name that the nearest ?: tells to be above 0. */
    private void divisor(BinaryTree tree) {
        String divisor = tree.getRightOperand().toString();
        Tree around = getCurrentPath().getParentPath().getLeaf();
        boolean constant = divisor.matches("[1-9]\\d*|[A-Z_]+");
        holds("rule 7: what divides is told not to be 0: " + tree,
            constant || around.toString().startsWith(divisor + " > 0 ? "));
    }

    @Override
    public Void visitAssignment(AssignmentTree tree, Void nothing) {
        Element left = trees.getElement(new TreePath(getCurrentPath(), tree.getVariable()));
        holds("rule 5: no static field is set", left == null || left.getKind() != ElementKind.FIELD
            || !left.getModifiers().contains(Modifier.STATIC));
        return super.visitAssignment(tree, nothing);
    }

    @Override
    public Void visitVariable(VariableTree tree, Void nothing) {
        Element element = trees.getElement(getCurrentPath());
        holds("rule 3: type of " + tree, allowed(element.asType()));
        if (element.getKind() == ElementKind.FIELD && element.getModifiers().contains(Modifier.STATIC)) {
            holds("rule 5: static and final: " + tree.getName(), element.getModifiers().contains(Modifier.FINAL));
            holds("rule 5: type of " + tree.getName(), element.asType().toString()
                .matches("(int|long|boolean|char|java.lang.String|(int|long|char|byte)\\[\\])"));
            holds("rule 5: value of " + tree.getName(), tree.getInitializer() != null
                && (tree.getInitializer().getKind() != Tree.Kind.METHOD_INVOCATION));
        }
        return super.visitVariable(tree, nothing);
    }

    private boolean allowed(TypeMirror type) {
        String name = erased(type);
        String element = name.replace("[]", "");
        int dimensions = (name.length() - element.length()) / 2;
        boolean number = element.matches("int|long|short|byte|char|boolean|double|float");
        if (dimensions > 0) {
            return dimensions == 1 && (number || element.startsWith("SlashKinds")) || dimensions == 2 && number;
        }
        return number || own(type) || LIBRARY_TYPES.contains(name);
    }

    // ---- rules 1, 2, 11: classes and methods

    @Override
    public Void visitClass(ClassTree tree, Void nothing) {
        Element element = trees.getElement(getCurrentPath());
        classes++;
        boolean outer = element.getEnclosingElement().getKind() == ElementKind.PACKAGE;
        holds("rule 2: a member, not of a method", outer || element.getEnclosingElement().getKind().isClass());
        Set<Modifier> how = element.getModifiers();
        holds("rule 1: public and final, or private", outer
            ? how.contains(Modifier.PUBLIC) && how.contains(Modifier.FINAL)
            : !how.contains(Modifier.PUBLIC) && !how.contains(Modifier.PROTECTED));
        holds("rule 2: static", outer || how.contains(Modifier.STATIC));
        int fields = 0;
        for (Tree member : tree.getMembers()) {
            holds("rule 5: no initialiser block", !(member instanceof BlockTree));
            fields += member instanceof VariableTree field
                && !field.getModifiers().getFlags().contains(Modifier.STATIC) ? 1 : 0;
        }
        holds("rule 11: twenty fields at most: " + fields, fields <= FIELDS);
        return super.visitClass(tree, nothing);
    }

    @Override
    public Void visitMethod(MethodTree tree, Void nothing) {
        method = (ExecutableElement) trees.getElement(getCurrentPath());
        String name = tree.getName().toString();
        Element owner = method.getEnclosingElement();
        names.put(method, owner.getSimpleName() + "." + name);
        calls.computeIfAbsent(method, m -> new HashSet<>());
        if (method.getModifiers().contains(Modifier.PRIVATE) && !name.equals("<init>")) {
            privateMethods.add(name);
        } else if (owner.getSimpleName().contentEquals("SlashKinds")) {
            faceMethods.add(name);
        }
        holds("rule 6: no " + name, !name.matches("equals|hashCode|toString|finalize"));
        holds("rule 6: throws nothing", tree.getThrows().isEmpty());
        holds("rule 11: parameters", tree.getParameters().size() <= PARAMETERS);
        holds("rule 11: a body", tree.getBody() != null || method.getModifiers().contains(Modifier.ABSTRACT));
        if (tree.getBody() != null && start(tree) >= 0) {
            long end = trees.getSourcePositions().getEndPosition(unit, tree);
            long lines = unit.getLineMap().getLineNumber(end) - unit.getLineMap().getLineNumber(start(tree)) + 1;
            holds("rule 11: sixty lines at most: " + lines, lines <= METHOD_LINES);
        }
        if (method.getReturnType().toString().equals("void")) {
            return super.visitMethod(tree, nothing);
        }
        holds("rule 3: what it answers", allowed(method.getReturnType()));
        return super.visitMethod(tree, nothing);
    }

    private void namesOfPrivateMethods() {
        for (String name : privateMethods) {
            Check.holds("rule 1: no private method bears the name of a public one: " + name,
                !faceMethods.contains(name));
        }
    }

    // ---- rules 4, 12: what is called and made

    @Override
    public Void visitMethodInvocation(MethodInvocationTree tree, Void nothing) {
        Element called = trees.getElement(getCurrentPath());
        if (called != null && own(called.getEnclosingElement().asType())) {
            calls.computeIfAbsent(method, m -> new HashSet<>()).add(called);
        } else if (called != null) {
            String owner = erased(called.getEnclosingElement().asType());
            String name = called.getSimpleName().toString();
            boolean above = name.equals("<init>") && owner.equals("java.lang.Object");
            holds("rule 4: " + owner + "." + name, above || LIBRARY.getOrDefault(owner, Set.of()).contains(name)
                || own(called.getEnclosingElement().asType()));
        }
        constructorKeepsItself(tree.getArguments());
        return super.visitMethodInvocation(tree, nothing);
    }

    @Override
    public Void visitNewClass(NewClassTree tree, Void nothing) {
        Element made = trees.getElement(getCurrentPath());
        holds("rule 2: no class without a name", tree.getClassBody() == null);
        String name = erased(made.getEnclosingElement().asType());
        holds("rule 4: new " + name, own(made.getEnclosingElement().asType()) || LIBRARY_TYPES.contains(name));
        if (method != null && own(made.getEnclosingElement().asType())) {
            calls.computeIfAbsent(method, m -> new HashSet<>()).add(made);
        }
        constructorKeepsItself(tree.getArguments());
        return super.visitNewClass(tree, nothing);
    }

    private void constructorKeepsItself(List<? extends ExpressionTree> arguments) {
        for (ExpressionTree argument : arguments) {
            holds("rule 12: nothing hands out this", !argument.toString().equals("this"));
        }
    }

    @Override
    public Void visitNewArray(NewArrayTree tree, Void nothing) {
        for (ExpressionTree length : tree.getDimensions()) {
            holds("rules 7, 12: a length that is told: " + length, length.toString().matches("\\d+|[\\w.]*[A-Z_]+( \\+ 1)?"));
        }
        return super.visitNewArray(tree, nothing);
    }

    @Override
    public Void visitMemberSelect(MemberSelectTree tree, Void nothing) {
        holds("rule 4: no " + tree, !tree.toString().matches("System\\.(?!arraycopy).*|Thread.*|Runtime.*"));
        return super.visitMemberSelect(tree, nothing);
    }

    // ---- rule 9: loops

    @Override
    public Void visitForLoop(ForLoopTree tree, Void nothing) {
        holds("rule 9: a counter against a bound: " + tree.getCondition(),
            tree.getCondition() != null && tree.getCondition().toString().matches(".*(<|<=|>|>=) .*")
                && tree.getInitializer().size() == 1 && tree.getUpdate().size() == 1
                && tree.getUpdate().get(0).toString().matches("\\w+(\\+\\+|--);?"));
        return super.visitForLoop(tree, nothing);
    }

    @Override
    public Void visitWhileLoop(WhileLoopTree tree, Void nothing) {
        holds("rule 9: a while has a bound", tree.getCondition().toString().matches(".*(<|<=|>|>=) .*"));
        return super.visitWhileLoop(tree, nothing);
    }

    @Override
    public Void visitDoWhileLoop(DoWhileLoopTree tree, Void nothing) {
        holds("rule 9: a do has a bound", tree.getCondition().toString().matches(".*(<|<=|>|>=) .*"));
        return super.visitDoWhileLoop(tree, nothing);
    }

    @Override
    public Void visitEnhancedForLoop(EnhancedForLoopTree tree, Void nothing) {
        holds("rule 10: for over an array", type(tree.getExpression()).toString().endsWith("[]"));
        return super.visitEnhancedForLoop(tree, nothing);
    }

    // ---- rules 8, 11: recursion, and how deep calls go

    private void recursion() {
        Map<Element, Set<Element>> reached = new HashMap<>();
        for (Element from : calls.keySet()) {
            Set<Element> seen = new HashSet<>();
            reach(from, seen);
            reached.put(from, seen);
        }
        for (Element one : calls.keySet()) {
            if (reached.get(one).contains(one)) {
                Check.holds("rule 8: " + names.get(one) + " calls itself and is private",
                    one.getModifiers().contains(Modifier.PRIVATE));
                Check.holds("rule 8: " + names.get(one) + " carries its depth",
                    ((ExecutableElement) one).getParameters().toString().contains("depth"));
            }
        }
        Map<String, Integer> deep = new TreeMap<>();
        for (Element from : calls.keySet()) {
            if (from.getModifiers().contains(Modifier.PUBLIC)) {
                deep.put(names.get(from), depth(from, reached));
            }
        }
        Set<String> tooDeep = new TreeSet<>();
        deep.forEach((name, calls) -> {
            if (calls > CALLS_DEEP) {
                tooDeep.add(name + " " + calls);
            }
        });
        Check.holds("rule 11: calls that are no recursion go eight deep at most: " + tooDeep, tooDeep.isEmpty());
    }

    private void reach(Element from, Set<Element> seen) {
        for (Element to : calls.getOrDefault(from, Set.of())) {
            if (seen.add(to)) {
                reach(to, seen);
            }
        }
    }

    /** Methods that call one another count once. */
    private int depth(Element from, Map<Element, Set<Element>> reached) {
        Set<Element> together = new HashSet<>(Set.of(from));
        for (Element other : reached.getOrDefault(from, Set.of())) {
            if (reached.getOrDefault(other, Set.of()).contains(from)) {
                together.add(other);
            }
        }
        int deepest = 0;
        for (Element one : together) {
            for (Element to : calls.getOrDefault(one, Set.of())) {
                if (!together.contains(to)) {
                    deepest = Math.max(deepest, depth(to, reached));
                }
            }
        }
        return 1 + deepest;
    }
}
