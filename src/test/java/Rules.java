import com.sun.source.tree.*;
import com.sun.source.util.JavacTask;
import com.sun.source.util.TreePath;
import com.sun.source.util.TreePathScanner;
import com.sun.source.util.TreeScanner;
import com.sun.source.util.Trees;
import java.io.IOException;
import java.net.URI;
import java.util.ArrayList;
import java.util.HashMap;
import java.util.HashSet;
import java.util.List;
import java.util.Locale;
import java.util.Map;
import java.util.Set;
import java.util.TreeMap;
import javax.lang.model.element.Element;
import javax.lang.model.element.ElementKind;
import javax.lang.model.element.ExecutableElement;
import javax.lang.model.element.Modifier;
import javax.lang.model.element.TypeElement;
import javax.lang.model.type.TypeKind;
import javax.lang.model.type.TypeMirror;
import javax.tools.JavaFileObject;
import javax.tools.SimpleJavaFileObject;
import javax.tools.ToolProvider;

/** What a program breaks of the rules of LANGUAGE.md, seen in its trees as javac reads them. */
final class Rules extends TreePathScanner<Void, Void> {
    private static final int MOST_LINES = 60;
    private static final int MOST_PARAMETERS = 7;
    private static final int MOST_CLASSES = 12;
    private static final int MOST_FIELDS = 20;
    private static final int DEEPEST = 8;

    /** Rule 4, by class: what may be called. */
    private static final Map<String, Set<String>> LIBRARY = Map.ofEntries(
            Map.entry("java.lang.String", Set.of("length", "charAt", "isEmpty", "equals", "indexOf", "substring",
                    "toCharArray")),
            Map.entry("java.lang.StringBuilder", Set.of("append", "charAt", "setCharAt", "setLength", "deleteCharAt",
                    "reverse", "length", "toString")),
            Map.entry("java.util.ArrayList", Set.of("add", "get", "set", "remove", "size", "isEmpty", "clear")),
            Map.entry("java.util.List", Set.of("add", "get", "set", "remove", "size", "isEmpty", "clear", "of")),
            Map.entry("java.lang.Math", Set.of("compare", "max", "min", "abs", "floorDiv", "floorMod")),
            Map.entry("java.lang.Integer", Set.of("compare", "max", "min", "bitCount")),
            Map.entry("java.lang.Long", Set.of("compare", "max", "min", "bitCount")),
            Map.entry("java.lang.System", Set.of("arraycopy")),
            Map.entry("java.util.Arrays", Set.of("copyOf", "copyOfRange", "fill")),
            Map.entry("java.lang.Object", Set.of("clone")));

    private static final Set<String> MADE =
            Set.of("java.util.ArrayList", "java.lang.StringBuilder", "java.lang.String");

    private static final Set<String> THROWN = Set.of("IllegalStateException", "IllegalArgumentException",
            "IndexOutOfBoundsException", "ArithmeticException", "UnsupportedOperationException",
            "NoSuchElementException", "RuntimeException");

    private static final Set<String> TYPES = Set.of("int", "long", "short", "byte", "char", "boolean", "double",
            "float", "java.lang.String", "java.lang.StringBuilder", "java.lang.Integer");

    private static final Set<Tree.Kind> COMPARING = Set.of(Tree.Kind.LESS_THAN, Tree.Kind.LESS_THAN_EQUAL,
            Tree.Kind.GREATER_THAN, Tree.Kind.GREATER_THAN_EQUAL, Tree.Kind.EQUAL_TO, Tree.Kind.NOT_EQUAL_TO);

    private final CompilationUnitTree unit;
    private final Trees trees;
    private final List<String> broken = new ArrayList<>();
    private final Map<ExecutableElement, Set<ExecutableElement>> calls = new HashMap<>();
    private final Set<ExecutableElement> callLibrary = new HashSet<>();
    private int classes = 0;
    /** What the method in hand compares with something, as it is written. */
    private Set<String> compared = new HashSet<>();
    /** Names in what the method in hand compares, or hands to a method that may look at them. */
    private Set<String> looked = new HashSet<>();

    private Rules(CompilationUnitTree unit, Trees trees) {
        this.unit = unit;
        this.trees = trees;
    }

    /** Each rule that the program breaks, with the line. */
    static List<String> brokenIn(String program) throws IOException {
        JavacTask task = (JavacTask) ToolProvider.getSystemJavaCompiler().getTask(null, null, diagnostic -> { },
                List.of("-proc:none"), null, List.of(new Text(program)));
        CompilationUnitTree unit = task.parse().iterator().next();
        task.analyze();
        Rules rules = new Rules(unit, Trees.instance(task));
        rules.scan(unit, null);
        rules.seeDepths();
        if (rules.classes > MOST_CLASSES) {
            rules.broken.add("11: so many classes: " + rules.classes);
        }
        return rules.broken;
    }

    private static final class Text extends SimpleJavaFileObject {
        private final String text;

        Text(String text) {
            super(URI.create("string:///FigureHouse.java"), JavaFileObject.Kind.SOURCE);
            this.text = text;
        }

        @Override
        public CharSequence getCharContent(boolean ignoreErrors) {
            return text;
        }
    }

    private void breaks(int rule, String what, Tree at) {
        long start = trees.getSourcePositions().getStartPosition(unit, at);
        broken.add(rule + ": " + what + ", line " + unit.getLineMap().getLineNumber(start));
    }

    private long lineOf(long position) {
        return unit.getLineMap().getLineNumber(position);
    }

    private Element elementOf(Tree tree) {
        return trees.getElement(TreePath.getPath(unit, tree));
    }

    private TypeMirror typeOf(Tree tree) {
        return trees.getTypeMirror(TreePath.getPath(unit, tree));
    }

    private String typeName(Tree tree) {
        TypeMirror type = typeOf(tree);
        return type == null ? "" : type.toString();
    }

    private boolean isText(Tree tree) {
        return typeName(tree).equals("java.lang.String");
    }

    private boolean isTruth(Tree tree) {
        TypeMirror type = typeOf(tree);
        return type != null && type.getKind() == TypeKind.BOOLEAN;
    }

    // ---- classes, fields and methods

    @Override
    public Void visitClass(ClassTree tree, Void unused) {
        classes++;
        Tree.Kind around = getCurrentPath().getParentPath().getLeaf().getKind();
        if (around == Tree.Kind.BLOCK) {
            breaks(2, "a class inside a method", tree);
        }
        Set<Modifier> flags = tree.getModifiers().getFlags();
        if (around == Tree.Kind.CLASS && (flags.contains(Modifier.PUBLIC) || flags.contains(Modifier.PROTECTED))) {
            breaks(1, "a class inside that is seen from outside", tree);
        }
        int fields = 0;
        for (Tree member : tree.getMembers()) {
            if (member instanceof VariableTree field && !field.getModifiers().getFlags().contains(Modifier.STATIC)) {
                fields++;
            }
            if (member instanceof BlockTree) {
                breaks(5, "an initialiser block", member);
            }
        }
        if (fields > MOST_FIELDS) {
            breaks(11, "so many fields: " + fields, tree);
        }
        return super.visitClass(tree, unused);
    }

    @Override
    public Void visitVariable(VariableTree tree, Void unused) {
        Element element = elementOf(tree);
        boolean isField = element != null && element.getKind() == ElementKind.FIELD;
        if (isField && element.getModifiers().contains(Modifier.STATIC)) {
            seeStatic(tree, element);
        }
        String type = typeName(tree);
        String of = type.replaceAll("^java\\.util\\.(Array)?List<(.*)>$", "$2");
        boolean isList = !of.equals(type);
        String one = of.replaceAll("(\\[])+$", "");
        int dimensions = (of.length() - one.length()) / 2;
        boolean isNumber = !one.contains(".") && !one.equals("boolean") && TYPES.contains(one);
        boolean isOwn = one.startsWith("FigureHouse.");
        if (!TYPES.contains(one) && !isOwn && !THROWN.contains(one.substring(one.lastIndexOf('.') + 1))
                || dimensions > (isNumber ? 2 : 1) || isList && !isOwn && !one.equals("java.lang.Integer")) {
            breaks(3, "a type: " + type, tree);
        }
        return super.visitVariable(tree, unused);
    }

    private void seeStatic(VariableTree tree, Element element) {
        String type = element.asType().toString();
        boolean isPlain = Set.of("int", "long", "boolean", "char", "java.lang.String").contains(type);
        boolean isRow = Set.of("int[]", "long[]", "char[]", "byte[]").contains(type)
                && tree.getInitializer() instanceof NewArrayTree row && row.getInitializers() != null;
        if (!element.getModifiers().contains(Modifier.FINAL) || !isPlain && !isRow) {
            breaks(5, "static: " + tree.getName(), tree);
        }
    }

    @Override
    public Void visitMethod(MethodTree tree, Void unused) {
        ExecutableElement method = (ExecutableElement) elementOf(tree);
        if (tree.getParameters().size() > MOST_PARAMETERS) {
            breaks(11, "so many parameters: " + tree.getName(), tree);
        }
        long start = trees.getSourcePositions().getStartPosition(unit, tree);
        long end = trees.getSourcePositions().getEndPosition(unit, tree);
        if (lineOf(end) - lineOf(start) >= MOST_LINES) {
            breaks(11, "a long method: " + tree.getName(), tree);
        }
        if (Set.of("equals", "hashCode", "toString").contains(tree.getName().toString())) {
            breaks(6, "a method of one's own: " + tree.getName(), tree);
        }
        calls.put(method, new HashSet<>());
        compared = new HashSet<>();
        looked = new HashSet<>();
        seeLooked(tree);
        return super.visitMethod(tree, unused);
    }

    private MethodTree methodInHand() {
        for (TreePath path = getCurrentPath(); path != null; path = path.getParentPath()) {
            if (path.getLeaf() instanceof MethodTree method) {
                return method;
            }
        }
        return null;
    }

    // ---- calls

    @Override
    public Void visitMethodInvocation(MethodInvocationTree tree, Void unused) {
        if (elementOf(tree.getMethodSelect()) instanceof ExecutableElement called) {
            see(called, tree);
        } else {
            breaks(4, "a call that nobody knows: " + tree, tree);
        }
        if (isPlaceInList(tree)) {
            seeIndex(tree.getArguments().get(0));
        }
        return super.visitMethodInvocation(tree, unused);
    }

    private void see(ExecutableElement called, MethodInvocationTree tree) {
        MethodTree inHand = methodInHand();
        String owner = ((TypeElement) called.getEnclosingElement()).getQualifiedName().toString();
        if (owner.startsWith("FigureHouse")) {
            if (inHand != null) {
                calls.get((ExecutableElement) elementOf(inHand)).add(called);
                seeRecursion(inHand, called, tree);
            }
            return;
        }
        String name = called.getSimpleName().toString();
        if (called.getKind() == ElementKind.CONSTRUCTOR) {
            return;
        }
        if (!LIBRARY.getOrDefault(owner, Set.of()).contains(name)) {
            breaks(4, "a call of " + owner + "." + name, tree);
        }
        if (inHand != null) {
            callLibrary.add((ExecutableElement) elementOf(inHand));
        }
        if (name.startsWith("floor") && tree.getArguments().size() == 2) {
            seeDivisor(tree.getArguments().get(1));
        }
    }

    private void seeRecursion(MethodTree inHand, ExecutableElement called, Tree tree) {
        Element caller = elementOf(inHand);
        Set<Modifier> flags = called.getModifiers();
        if (caller.equals(called) && !(flags.contains(Modifier.PRIVATE) && flags.contains(Modifier.STATIC))) {
            breaks(8, "a method that calls itself and is not private and static: " + called, tree);
        }
        boolean isOfConstructor = caller.getKind() == ElementKind.CONSTRUCTOR
                && called.getEnclosingElement().equals(caller.getEnclosingElement());
        boolean isFixed = flags.contains(Modifier.PRIVATE) || flags.contains(Modifier.STATIC)
                || flags.contains(Modifier.FINAL) || called.getKind() == ElementKind.CONSTRUCTOR;
        if (isOfConstructor && !isFixed) {
            breaks(12, "a constructor calls what another class could override: " + called, tree);
        }
    }

    @Override
    public Void visitNewClass(NewClassTree tree, Void unused) {
        String made = typeName(tree).replaceAll("<.*", "");
        boolean isThrown = getCurrentPath().getParentPath().getLeaf() instanceof ThrowTree;
        if (!made.startsWith("FigureHouse") && !MADE.contains(made) && !isThrown) {
            breaks(4, "new " + made, tree);
        }
        Element called = elementOf(tree);
        MethodTree inHand = methodInHand();
        if (called instanceof ExecutableElement constructor && made.startsWith("FigureHouse") && inHand != null) {
            calls.get((ExecutableElement) elementOf(inHand)).add(constructor);
        }
        return super.visitNewClass(tree, unused);
    }

    // ---- exceptions

    @Override
    public Void visitThrow(ThrowTree tree, Void unused) {
        boolean isPlain = tree.getExpression() instanceof NewClassTree made
                && THROWN.contains(made.getIdentifier().toString()) && made.getArguments().size() <= 1
                && made.getArguments().stream().allMatch(text -> text.getKind() == Tree.Kind.STRING_LITERAL);
        if (!isPlain) {
            breaks(6, "a throw: " + tree, tree);
        }
        MethodTree inHand = methodInHand();
        if (inHand == null || inHand.getReturnType() == null) {
            breaks(6, "a throw in a constructor", tree);
        }
        return super.visitThrow(tree, unused);
    }

    @Override
    public Void visitTry(TryTree tree, Void unused) {
        if (tree.getFinallyBlock() != null || !tree.getResources().isEmpty()) {
            breaks(6, "finally, or resources", tree);
        }
        if (methodInHand() != null && holdsThrow(methodInHand())) {
            breaks(6, "a try in the method that holds the throw", tree);
        }
        for (CatchTree one : tree.getCatches()) {
            String caught = one.getParameter().getType().toString();
            // What the machine throws of itself is not to be caught, by its own name or by a class above it.
            if (!Set.of("IllegalStateException", "IllegalArgumentException", "UnsupportedOperationException",
                    "NoSuchElementException").contains(caught)) {
                breaks(6, "a catch of " + caught, one);
            }
        }
        return super.visitTry(tree, unused);
    }

    private static boolean holdsThrow(MethodTree method) {
        return new TreeScanner<Boolean, Void>() {
            @Override
            public Boolean visitThrow(ThrowTree tree, Void unused) {
                return true;
            }

            @Override
            public Boolean reduce(Boolean one, Boolean other) {
                return one == Boolean.TRUE || other == Boolean.TRUE;
            }
        }.scan(method, null) == Boolean.TRUE;
    }

    // ---- loops, signs, divisors and indices

    @Override
    public Void visitForLoop(ForLoopTree tree, Void unused) {
        seeEnd(tree.getCondition(), tree);
        return super.visitForLoop(tree, unused);
    }

    @Override
    public Void visitWhileLoop(WhileLoopTree tree, Void unused) {
        seeEnd(tree.getCondition(), tree);
        return super.visitWhileLoop(tree, unused);
    }

    @Override
    public Void visitDoWhileLoop(DoWhileLoopTree tree, Void unused) {
        seeEnd(tree.getCondition(), tree);
        return super.visitDoWhileLoop(tree, unused);
    }

    private void seeEnd(ExpressionTree condition, Tree loop) {
        if (condition == null || condition.toString().replaceAll("[()]", "").equals("true")) {
            breaks(9, "a loop without an end", loop);
        }
    }

    @Override
    public Void visitEnhancedForLoop(EnhancedForLoopTree tree, Void unused) {
        TypeMirror type = typeOf(tree.getExpression());
        if (type == null || type.getKind() != TypeKind.ARRAY) {
            breaks(12, "a loop over a list makes an iterator", tree);
        }
        return super.visitEnhancedForLoop(tree, unused);
    }

    @Override
    public Void visitBinary(BinaryTree tree, Void unused) {
        Tree.Kind kind = tree.getKind();
        ExpressionTree left = tree.getLeftOperand();
        if (kind == Tree.Kind.PLUS && isText(tree)) {
            breaks(10, "texts joined by +", tree);
        }
        if (isTruth(left) && Set.of(Tree.Kind.AND, Tree.Kind.OR, Tree.Kind.XOR).contains(kind)) {
            breaks(10, "a mask of truths", tree);
        }
        if (kind == Tree.Kind.DIVIDE || kind == Tree.Kind.REMAINDER) {
            seeDivisor(tree.getRightOperand());
        }
        boolean compares = kind == Tree.Kind.EQUAL_TO || kind == Tree.Kind.NOT_EQUAL_TO;
        if (compares && isText(left) && isText(tree.getRightOperand())) {
            breaks(6, "two texts by ==", tree);
        }
        return super.visitBinary(tree, unused);
    }

    @Override
    public Void visitCompoundAssignment(CompoundAssignmentTree tree, Void unused) {
        Tree.Kind kind = tree.getKind();
        if (isText(tree.getVariable())) {
            breaks(10, "texts joined by +=", tree);
        }
        if (isTruth(tree.getVariable())) {
            breaks(10, "a mask of truths", tree);
        }
        if (kind == Tree.Kind.DIVIDE_ASSIGNMENT || kind == Tree.Kind.REMAINDER_ASSIGNMENT) {
            seeDivisor(tree.getExpression());
        }
        seeChanged(tree.getVariable());
        return super.visitCompoundAssignment(tree, unused);
    }

    @Override
    public Void visitAssignment(AssignmentTree tree, Void unused) {
        seeChanged(tree.getVariable());
        return super.visitAssignment(tree, unused);
    }

    private void seeChanged(ExpressionTree changed) {
        if (changed instanceof ArrayAccessTree place) {
            Element row = elementOf(place.getExpression());
            if (row != null && row.getModifiers().contains(Modifier.STATIC)) {
                breaks(5, "a constant row is changed", changed);
            }
        }
    }

    /** A divisor is a number, or is compared with something in the same method. */
    private void seeDivisor(ExpressionTree divisor) {
        String name = divisor.toString().replaceAll("[()]", "").replaceAll(" \\+ [1-9]\\d*$", "");
        if (!name.matches("[1-9]\\d*") && !compared.contains(name)) {
            breaks(7, "a divisor that is not looked at: " + divisor, divisor);
        }
    }

    private void seeLooked(MethodTree method) {
        new TreeScanner<Void, Void>() {
            @Override
            public Void visitBinary(BinaryTree tree, Void unused) {
                if (COMPARING.contains(tree.getKind())) {
                    compared.add(tree.getLeftOperand().toString());
                    compared.add(tree.getRightOperand().toString());
                    looked.addAll(namesIn(tree));
                }
                return super.visitBinary(tree, unused);
            }

            @Override
            public Void visitMethodInvocation(MethodInvocationTree tree, Void unused) {
                if (!isPlaceInList(tree)) {
                    tree.getArguments().forEach(argument -> looked.addAll(namesIn(argument)));
                }
                return super.visitMethodInvocation(tree, unused);
            }
        }.scan(method, null);
    }

    /** The names in it that do not stand for constants. */
    private static Set<String> namesIn(Tree tree) {
        Set<String> names = new HashSet<>();
        new TreeScanner<Void, Void>() {
            @Override
            public Void visitIdentifier(IdentifierTree tree, Void unused) {
                String name = tree.getName().toString();
                if (!name.equals(name.toUpperCase(Locale.ROOT))) {
                    names.add(name);
                }
                return null;
            }
        }.scan(tree, null);
        return names;
    }

    private static boolean isPlaceInList(MethodInvocationTree tree) {
        return tree.getMethodSelect() instanceof MemberSelectTree select && !tree.getArguments().isEmpty()
                && Set.of("get", "set", "remove").contains(select.getIdentifier().toString());
    }

    @Override
    public Void visitArrayAccess(ArrayAccessTree tree, Void unused) {
        seeIndex(tree.getIndex());
        return super.visitArrayAccess(tree, unused);
    }

    /** Each name in an index is compared in the same method, or handed to one that may look at it. */
    private void seeIndex(ExpressionTree index) {
        Set<String> names = namesIn(index);
        names.removeAll(looked);
        if (!names.isEmpty()) {
            breaks(7, "an index that is not looked at: " + index, index);
        }
    }

    // ---- what is not to be there at all

    @Override
    public Void visitLambdaExpression(LambdaExpressionTree tree, Void unused) {
        breaks(2, "a lambda", tree);
        return super.visitLambdaExpression(tree, unused);
    }

    @Override
    public Void visitMemberReference(MemberReferenceTree tree, Void unused) {
        breaks(2, "a reference to a method", tree);
        return super.visitMemberReference(tree, unused);
    }

    @Override
    public Void visitAssert(AssertTree tree, Void unused) {
        breaks(6, "assert", tree);
        return super.visitAssert(tree, unused);
    }

    @Override
    public Void visitSynchronized(SynchronizedTree tree, Void unused) {
        breaks(6, "synchronized", tree);
        return super.visitSynchronized(tree, unused);
    }

    // ---- how deep calls go

    private void seeDepths() {
        Map<ExecutableElement, Set<ExecutableElement>> reached = new HashMap<>();
        for (ExecutableElement method : calls.keySet()) {
            Set<ExecutableElement> all = new HashSet<>();
            reach(method, all);
            reached.put(method, all);
        }
        Map<String, Integer> deepest = new TreeMap<>();
        for (ExecutableElement method : calls.keySet()) {
            int depth = depthOf(method, reached, new HashMap<>());
            if (depth > DEEPEST) {
                deepest.put(method.getEnclosingElement() + "." + method, depth);
            }
            seeRing(method, reached);
        }
        for (String method : deepest.keySet()) {
            broken.add("11: calls go " + deepest.get(method) + " deep: " + method);
        }
    }

    private void reach(ExecutableElement method, Set<ExecutableElement> all) {
        for (ExecutableElement next : calls.getOrDefault(method, Set.of())) {
            if (all.add(next)) {
                reach(next, all);
            }
        }
    }

    /** Methods that call one another count once; a call of the library counts too. */
    private int depthOf(ExecutableElement method, Map<ExecutableElement, Set<ExecutableElement>> reached,
            Map<ExecutableElement, Integer> known) {
        Integer had = known.get(method);
        if (had != null) {
            return had;
        }
        int below = 0;
        for (ExecutableElement mate : ringOf(method, reached)) {
            below = Math.max(below, callLibrary.contains(mate) ? 1 : 0);
            for (ExecutableElement next : calls.getOrDefault(mate, Set.of())) {
                if (!ringOf(method, reached).contains(next)) {
                    below = Math.max(below, depthOf(next, reached, known));
                }
            }
        }
        known.put(method, below + 1);
        return below + 1;
    }

    private static Set<ExecutableElement> ringOf(ExecutableElement method,
            Map<ExecutableElement, Set<ExecutableElement>> reached) {
        Set<ExecutableElement> ring = new HashSet<>(Set.of(method));
        for (ExecutableElement other : reached.getOrDefault(method, Set.of())) {
            if (reached.getOrDefault(other, Set.of()).contains(method)) {
                ring.add(other);
            }
        }
        return ring;
    }

    /** Rule 8: methods that call one another are private and carry a depth. */
    private void seeRing(ExecutableElement method, Map<ExecutableElement, Set<ExecutableElement>> reached) {
        boolean isInRing = reached.get(method).contains(method);
        boolean carries = method.getParameters().stream().anyMatch(p -> p.getSimpleName().contentEquals("depth"));
        if (isInRing && (!method.getModifiers().contains(Modifier.PRIVATE) || !carries)) {
            broken.add("8: it calls itself by others, and is not private or carries no depth: " + method);
        }
    }
}
