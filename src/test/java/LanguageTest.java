import com.sun.source.tree.ArrayAccessTree;
import com.sun.source.tree.AssertTree;
import com.sun.source.tree.AssignmentTree;
import com.sun.source.tree.BinaryTree;
import com.sun.source.tree.BlockTree;
import com.sun.source.tree.ClassTree;
import com.sun.source.tree.CompilationUnitTree;
import com.sun.source.tree.CompoundAssignmentTree;
import com.sun.source.tree.DoWhileLoopTree;
import com.sun.source.tree.ExpressionTree;
import com.sun.source.tree.ForLoopTree;
import com.sun.source.tree.IdentifierTree;
import com.sun.source.tree.LambdaExpressionTree;
import com.sun.source.tree.LineMap;
import com.sun.source.tree.LiteralTree;
import com.sun.source.tree.MemberReferenceTree;
import com.sun.source.tree.MemberSelectTree;
import com.sun.source.tree.MethodInvocationTree;
import com.sun.source.tree.MethodTree;
import com.sun.source.tree.NewArrayTree;
import com.sun.source.tree.NewClassTree;
import com.sun.source.tree.ParenthesizedTree;
import com.sun.source.tree.SynchronizedTree;
import com.sun.source.tree.ThrowTree;
import com.sun.source.tree.Tree;
import com.sun.source.tree.TryTree;
import com.sun.source.tree.TypeCastTree;
import com.sun.source.tree.UnaryTree;
import com.sun.source.tree.VariableTree;
import com.sun.source.tree.WhileLoopTree;
import com.sun.source.util.JavacTask;
import com.sun.source.util.SourcePositions;
import com.sun.source.util.TreePath;
import com.sun.source.util.TreePathScanner;
import com.sun.source.util.Trees;
import java.net.URI;
import java.nio.file.Files;
import java.nio.file.Path;
import java.util.ArrayList;
import java.util.Arrays;
import java.util.HashMap;
import java.util.HashSet;
import java.util.LinkedHashSet;
import java.util.List;
import java.util.Map;
import java.util.Set;
import java.util.TreeSet;
import javax.lang.model.element.Element;
import javax.lang.model.element.ElementKind;
import javax.lang.model.element.ExecutableElement;
import javax.lang.model.element.Modifier;
import javax.lang.model.element.VariableElement;
import javax.lang.model.type.ArrayType;
import javax.lang.model.type.DeclaredType;
import javax.lang.model.type.TypeKind;
import javax.lang.model.type.TypeMirror;
import javax.tools.JavaCompiler;
import javax.tools.JavaFileObject;
import javax.tools.SimpleJavaFileObject;
import javax.tools.ToolProvider;

/**
 * What of LANGUAGE.md can be seen in the source: its syntax tree, with the types that the compiler found, is asked rule
 * by rule. Where the class has no need of what a rule leaves (recursion, casts of objects, divisors that vary, objects
 * made by calls), the test is stricter than the rule. Each check is tried on a source that breaks its rule, too.
 */
public final class LanguageTest {
    static final String[] FACE = {
        "public BellMilk()", "public int grass(int pasture, int v)", "public int pasture(int pasture, int what)",
        "public int weather(int what, int v)", "public int pail(int tone)", "public int pour(int tone)",
        "public int cow(int kind, int pasture)", "public int of(int cow, int what)",
        "public int change(int cow, int what, int v)", "public int go(int n)", "public int now(int what)",
        "public int ahead(int tone, int n)", "public int where(int cow, int what, int n)", "public int when(int tone, int v)",
        "public int meet(int a, int b)", "public int bare()", "public int graze(int cow, int n)",
        "public int toneFor(int cow, int pail, int n)", "public int kindFor(int cow, int n)",
        "public int swingsFor(int cow, int v, int n)", "public int growsFor(int n)", "public int thunderFor(int v, int n)",
        "public int pair(int tone)", "public int muffle(int tone, int v, int n)", "public int fits(int s, int tone)",
        "public int kinds(int s, int cow)", "public int storms(int n)", "public long odds(int n, int what)",
        "public int seed(int v)", "public int feed(int bytes, int n)", "public int wipe()", "public int text()",
        "public int hold(int spot, int cow)", "public int as(int spot, int kind)", "public int sheet(int s, int bits, int n)",
        "public int write(int s, int i, int v)", "public int copy(int s, int from, int t, int to, int n)",
        "public int load(int s)", "public int judge(int s)", "public int image()", "public int undo()", "public int tear()",
        "public int count(int what)", "public int status(int which)"
    };

    /** Rule 4, of which Integer, Long and Math are asked apart. */
    static final Set<String> LIBRARY = Set.of("String.length", "String.charAt", "String.isEmpty", "String.equals",
            "String.indexOf", "String.substring", "String.toCharArray", "StringBuilder.append", "StringBuilder.charAt",
            "StringBuilder.setCharAt", "StringBuilder.setLength", "StringBuilder.deleteCharAt", "StringBuilder.reverse",
            "StringBuilder.length", "StringBuilder.toString", "System.arraycopy", "Arrays.copyOf", "Arrays.copyOfRange",
            "Arrays.fill", "Array.clone");
    static final Set<String> NUMBERS = Set.of("Integer", "Long", "Math");
    static final Set<TypeKind> CONSTANTS = Set.of(TypeKind.INT, TypeKind.LONG, TypeKind.BOOLEAN, TypeKind.CHAR);
    static final Set<TypeKind> CONSTANT_ROWS = Set.of(TypeKind.INT, TypeKind.LONG, TypeKind.CHAR, TypeKind.BYTE);

    static final int MOST_LINES = 60;
    static final int MOST_PARAMETERS = 7;
    static final int MOST_CLASSES = 12;
    static final int MOST_FIELDS = 20;
    static final int MOST_DEEP = 8;

    /** The tree of one source, and what it breaks. */
    static final class Source extends TreePathScanner<Void, Void> {
        final Set<String> broken = new LinkedHashSet<>();
        final Set<String> face = new TreeSet<>();
        private final Trees trees;
        private final SourcePositions positions;
        private final CompilationUnitTree unit;
        private final Map<Element, Set<Element>> calls = new HashMap<>();
        private final Set<Element> open = new HashSet<>();
        private final Set<String> publicNames = new HashSet<>();
        private final Map<String, Tree> privateNames = new HashMap<>();
        private int classes = 0;

        Source(String text) throws Exception {
            JavaCompiler compiler = ToolProvider.getSystemJavaCompiler();
            JavaFileObject file = new SimpleJavaFileObject(URI.create("string:///BellMilk.java"), JavaFileObject.Kind.SOURCE) {
                @Override
                public CharSequence getCharContent(boolean ignoreErrors) {
                    return text;
                }
            };
            List<String> options = List.of("--release", "17", "-proc:none");
            JavacTask task = (JavacTask) compiler.getTask(null, null, null, options, null, List.of(file));
            unit = task.parse().iterator().next();
            task.analyze();
            trees = Trees.instance(task);
            positions = trees.getSourcePositions();
            wholeFile(text);
            scan(new TreePath(unit), null);
            names();
            if (classes > MOST_CLASSES) broken.add("rule 11: " + classes + " classes");
            for (Element method : calls.keySet()) depth(method);
        }

        private void breaks(int rule, Tree where, String what) {
            LineMap lines = unit.getLineMap();
            broken.add("rule " + rule + ": line " + lines.getLineNumber(positions.getStartPosition(unit, where)) + ": " + what);
        }

        private Element element(Tree tree) {
            return trees.getElement(new TreePath(getCurrentPath(), tree));
        }

        private TypeMirror type(Tree tree) {
            return trees.getTypeMirror(new TreePath(getCurrentPath(), tree));
        }

        private boolean isOwn(Element e) {
            return e != null && trees.getTree(e) != null;
        }

        private static boolean isText(TypeMirror type) {
            return type != null && type.toString().equals("java.lang.String");
        }

        private void wholeFile(String text) {
            if (unit.getPackage() != null) broken.add("rule 1: a package line");
            for (Tree line : unit.getImports()) {
                if (!line.toString().trim().matches("import java\\.util\\.(Arrays|ArrayList|List|Iterator);")) {
                    breaks(4, line, line.toString().trim());
                }
            }
            if (unit.getTypeDecls().size() != 1) broken.add("rule 1: " + unit.getTypeDecls().size() + " classes side by side");
            for (int i = 0; i < text.length(); i++) {
                char sign = text.charAt(i);
                if (sign > 126 || (sign < 32 && sign != '\n')) broken.add("rule 4: the sign " + (int) sign);
            }
        }

        private void names() {
            for (Map.Entry<String, Tree> name : privateNames.entrySet()) {
                if (publicNames.contains(name.getKey())) breaks(1, name.getValue(), name.getKey() + " bears a name of the face");
            }
        }

        // ---- classes and what they have

        @Override
        public Void visitClass(ClassTree tree, Void v) {
            classes++;
            Tree around = getCurrentPath().getParentPath().getLeaf();
            Set<Modifier> flags = tree.getModifiers().getFlags();
            if (around == unit) {
                if (!flags.equals(Set.of(Modifier.PUBLIC, Modifier.FINAL))) breaks(1, tree, "the class is " + flags);
            } else if (!(around instanceof ClassTree)) {
                breaks(2, tree, "a class inside of a method");
            } else {
                boolean isStatic = flags.contains(Modifier.STATIC) || tree.getKind() != Tree.Kind.CLASS;
                if (!isStatic) breaks(2, tree, tree.getSimpleName() + " isn't static");
                if (flags.contains(Modifier.PUBLIC) || flags.contains(Modifier.PROTECTED)) breaks(1, tree, "a class is " + flags);
            }
            int fields = 0;
            for (Tree member : tree.getMembers()) {
                if (member instanceof BlockTree) breaks(5, member, "an initialiser block");
                if (member instanceof VariableTree && !((VariableTree) member).getModifiers().getFlags().contains(Modifier.STATIC)) {
                    fields++;
                }
            }
            if (fields > MOST_FIELDS) breaks(11, tree, fields + " fields");
            return super.visitClass(tree, v);
        }

        @Override
        public Void visitVariable(VariableTree tree, Void v) {
            VariableElement e = (VariableElement) trees.getElement(getCurrentPath());
            allowedType(tree, e.asType());
            Tree around = getCurrentPath().getParentPath().getLeaf();
            if (around instanceof ClassTree) {
                Set<Modifier> flags = tree.getModifiers().getFlags();
                boolean isOuter = getCurrentPath().getParentPath().getParentPath().getLeaf() == unit;
                if (isOuter && !flags.contains(Modifier.PRIVATE)) breaks(1, tree, tree.getName() + " isn't private");
                if (flags.contains(Modifier.STATIC)) staticField(tree, e);
            }
            return super.visitVariable(tree, v);
        }

        private void staticField(VariableTree tree, VariableElement e) {
            TypeMirror type = e.asType();
            boolean isRow = type.getKind() == TypeKind.ARRAY;
            if (!e.getModifiers().contains(Modifier.FINAL)) breaks(5, tree, tree.getName() + " isn't final");
            if (isRow) {
                boolean isWrittenOut = tree.getInitializer() instanceof NewArrayTree
                        && ((NewArrayTree) tree.getInitializer()).getInitializers() != null;
                if (!isWrittenOut || !CONSTANT_ROWS.contains(((ArrayType) type).getComponentType().getKind())) {
                    breaks(5, tree, tree.getName() + " isn't a row of numbers written out");
                }
            } else if (e.getConstantValue() == null || !(CONSTANTS.contains(type.getKind()) || isText(type))) {
                breaks(5, tree, tree.getName() + " isn't a constant");
            }
        }

        private void allowedType(Tree tree, TypeMirror type) {
            if (type.getKind() == TypeKind.ARRAY) {
                TypeMirror inner = ((ArrayType) type).getComponentType();
                if (inner.getKind() == TypeKind.ARRAY) {
                    inner = ((ArrayType) inner).getComponentType();
                    if (!inner.getKind().isPrimitive()) breaks(3, tree, "the type " + type);
                }
                if (inner.getKind().isPrimitive()) return;
                if (inner.getKind() != TypeKind.DECLARED || !isOwn(((DeclaredType) inner).asElement())) {
                    breaks(3, tree, "the type " + type);
                }
            } else if (type.getKind() == TypeKind.DECLARED) {
                String name = type.toString();
                boolean isListed = isText(type) || name.equals("java.lang.StringBuilder");
                if (!isListed && !isOwn(((DeclaredType) type).asElement())) breaks(3, tree, "the type " + type);
            }
        }

        // ---- methods

        @Override
        public Void visitMethod(MethodTree tree, Void v) {
            ExecutableElement e = (ExecutableElement) trees.getElement(getCurrentPath());
            calls.computeIfAbsent(e, k -> new LinkedHashSet<>());
            if (tree.getReturnType() != null) allowedType(tree, e.getReturnType());
            if (tree.getParameters().size() > MOST_PARAMETERS) breaks(11, tree, tree.getParameters().size() + " parameters");
            if (!tree.getThrows().isEmpty()) breaks(6, tree, "throws");
            if (e.getModifiers().contains(Modifier.SYNCHRONIZED)) breaks(6, tree, "a synchronized method");
            LineMap lines = unit.getLineMap();
            long length = lines.getLineNumber(positions.getEndPosition(unit, tree))
                    - lines.getLineNumber(positions.getStartPosition(unit, tree)) + 1;
            if (length > MOST_LINES) breaks(11, tree, tree.getName() + " has " + length + " lines");
            String name = tree.getName().toString();
            if (Set.of("equals", "hashCode", "toString").contains(name)) breaks(6, tree, name + " of an own class");
            boolean isOuter = getCurrentPath().getParentPath().getParentPath().getLeaf() == unit;
            Set<Modifier> flags = tree.getModifiers().getFlags();
            if (!isOuter || flags.contains(Modifier.PRIVATE)) {
                privateNames.put(name.equals("<init>") ? "" : name, tree);
            } else {
                publicNames.add(name);
                face.add(signature(tree, e));
                if (!flags.equals(Set.of(Modifier.PUBLIC))) breaks(1, tree, name + " is " + flags);
            }
            return super.visitMethod(tree, v);
        }

        private static String signature(MethodTree tree, ExecutableElement e) {
            StringBuilder b = new StringBuilder("public ");
            if (tree.getReturnType() == null) b.append(e.getEnclosingElement().getSimpleName());
            else b.append(tree.getReturnType()).append(' ').append(tree.getName());
            List<String> parameters = new ArrayList<>();
            for (VariableTree p : tree.getParameters()) parameters.add(p.getType() + " " + p.getName());
            return b.append('(').append(String.join(", ", parameters)).append(')').toString();
        }

        /** The method that a tree is in, or null: what a field begins with is of the constructor. */
        private Element methodAround() {
            for (TreePath p = getCurrentPath(); p != null; p = p.getParentPath()) {
                if (p.getLeaf() instanceof MethodTree) return trees.getElement(p);
            }
            return null;
        }

        private void called(Element callee) {
            Element caller = methodAround();
            if (caller != null && isOwn(callee)) calls.computeIfAbsent(caller, k -> new LinkedHashSet<>()).add(callee);
        }

        /** How many calls stand open at once at most, from this one on. */
        private int depth(Element method) {
            if (!open.add(method)) {
                broken.add("rule 8: " + method + " calls itself");
                return 0;
            }
            int deepest = 0;
            for (Element callee : calls.getOrDefault(method, Set.of())) deepest = Math.max(deepest, depth(callee));
            open.remove(method);
            if (deepest + 1 > MOST_DEEP) broken.add("rule 11: " + method + " goes " + (deepest + 1) + " deep");
            return deepest + 1;
        }

        @Override
        public Void visitMethodInvocation(MethodInvocationTree tree, Void v) {
            Element callee = element(tree.getMethodSelect());
            called(callee);
            if (!isOwn(callee) && !callee.getSimpleName().contentEquals("<init>")) {
                String owner = callee.getEnclosingElement().getSimpleName().toString();
                String name = callee.getSimpleName().toString();
                boolean isNumbers = NUMBERS.contains(owner) && callee.getModifiers().contains(Modifier.STATIC)
                        && !name.endsWith("Exact") && !name.equals("random");
                if (!isNumbers && !LIBRARY.contains(owner + "." + name)) breaks(4, tree, owner + "." + name);
                for (ExpressionTree a : tree.getArguments()) {
                    TypeKind kind = type(a).getKind();
                    if (isNumbers && kind != TypeKind.INT && kind != TypeKind.LONG) breaks(4, tree, name + " of " + kind);
                }
            }
            return super.visitMethodInvocation(tree, v);
        }

        @Override
        public Void visitNewClass(NewClassTree tree, Void v) {
            if (tree.getClassBody() != null) breaks(2, tree, "a class without a name");
            called(trees.getElement(getCurrentPath()));
            madeInConstructor(tree);
            return super.visitNewClass(tree, v);
        }

        @Override
        public Void visitNewArray(NewArrayTree tree, Void v) {
            madeInConstructor(tree);
            for (ExpressionTree length : tree.getDimensions()) {
                if (!isConstantAbove(length, -1)) breaks(7, tree, "the length " + length);
            }
            return super.visitNewArray(tree, v);
        }

        private void madeInConstructor(Tree tree) {
            Element around = methodAround();
            if (around != null && around.getKind() != ElementKind.CONSTRUCTOR) breaks(12, tree, around + " makes an object");
        }

        // ---- what is left out of the language

        @Override
        public Void visitLambdaExpression(LambdaExpressionTree tree, Void v) {
            breaks(2, tree, "a lambda");
            return super.visitLambdaExpression(tree, v);
        }

        @Override
        public Void visitMemberReference(MemberReferenceTree tree, Void v) {
            breaks(2, tree, "a method reference");
            return super.visitMemberReference(tree, v);
        }

        @Override
        public Void visitThrow(ThrowTree tree, Void v) {
            breaks(6, tree, "throw");
            return super.visitThrow(tree, v);
        }

        @Override
        public Void visitTry(TryTree tree, Void v) {
            breaks(6, tree, "try");
            return super.visitTry(tree, v);
        }

        @Override
        public Void visitSynchronized(SynchronizedTree tree, Void v) {
            breaks(6, tree, "synchronized");
            return super.visitSynchronized(tree, v);
        }

        @Override
        public Void visitAssert(AssertTree tree, Void v) {
            breaks(6, tree, "assert");
            return super.visitAssert(tree, v);
        }

        @Override
        public Void visitTypeCast(TypeCastTree tree, Void v) {
            if (!type(tree.getType()).getKind().isPrimitive()) breaks(6, tree, "a cast to " + tree.getType());
            return super.visitTypeCast(tree, v);
        }

        // ---- numbers, rows, loops

        private boolean isConstantAbove(ExpressionTree tree, long bound) {
            ExpressionTree t = tree;
            while (t instanceof ParenthesizedTree) t = ((ParenthesizedTree) t).getExpression();
            Object value = null;
            if (t instanceof LiteralTree) value = ((LiteralTree) t).getValue();
            else if (element(t) instanceof VariableElement) value = ((VariableElement) element(t)).getConstantValue();
            return value instanceof Number && ((Number) value).longValue() > bound;
        }

        @Override
        public Void visitBinary(BinaryTree tree, Void v) {
            TypeMirror left = type(tree.getLeftOperand());
            TypeMirror right = type(tree.getRightOperand());
            switch (tree.getKind()) {
                case DIVIDE:
                case REMAINDER:
                    if (!isConstantAbove(tree.getRightOperand(), 0)) breaks(7, tree, "the divisor " + tree.getRightOperand());
                    break;
                case EQUAL_TO:
                case NOT_EQUAL_TO:
                    if (isText(left) && isText(right)) breaks(6, tree, "texts are compared by " + tree);
                    break;
                case PLUS:
                    if (isText(left) || isText(right)) breaks(10, tree, "texts are joined by +");
                    break;
                default:
            }
            return super.visitBinary(tree, v);
        }

        @Override
        public Void visitCompoundAssignment(CompoundAssignmentTree tree, Void v) {
            boolean divides = tree.getKind() == Tree.Kind.DIVIDE_ASSIGNMENT || tree.getKind() == Tree.Kind.REMAINDER_ASSIGNMENT;
            if (divides && !isConstantAbove(tree.getExpression(), 0)) breaks(7, tree, "the divisor " + tree.getExpression());
            if (isText(type(tree.getVariable()))) breaks(10, tree, "texts are joined by +=");
            return super.visitCompoundAssignment(tree, v);
        }

        @Override
        public Void visitIdentifier(IdentifierTree tree, Void v) {
            Element e = trees.getElement(getCurrentPath());
            boolean isStaticRow = e != null && e.getKind() == ElementKind.FIELD && e.getModifiers().contains(Modifier.STATIC)
                    && e.asType().getKind() == TypeKind.ARRAY;
            if (isStaticRow && !isOnlyRead(tree)) breaks(5, tree, tree.getName() + " could be changed");
            return super.visitIdentifier(tree, v);
        }

        private boolean isOnlyRead(Tree row) {
            TreePath use = getCurrentPath().getParentPath();
            if (use.getLeaf() instanceof MemberSelectTree) {
                return ((MemberSelectTree) use.getLeaf()).getIdentifier().contentEquals("length");
            }
            if (!(use.getLeaf() instanceof ArrayAccessTree) || ((ArrayAccessTree) use.getLeaf()).getExpression() != row) return false;
            Tree around = use.getParentPath().getLeaf();
            if (around instanceof CompoundAssignmentTree) return ((CompoundAssignmentTree) around).getVariable() != use.getLeaf();
            if (around instanceof UnaryTree) return !around.getKind().toString().matches(".*CREMENT");
            return !(around instanceof AssignmentTree) || ((AssignmentTree) around).getVariable() != use.getLeaf();
        }

        @Override
        public Void visitForLoop(ForLoopTree tree, Void v) {
            if (tree.getCondition() == null || tree.getUpdate().isEmpty()) breaks(9, tree, "a loop without an end");
            return super.visitForLoop(tree, v);
        }

        @Override
        public Void visitWhileLoop(WhileLoopTree tree, Void v) {
            hasEnd(tree, tree.getCondition());
            return super.visitWhileLoop(tree, v);
        }

        @Override
        public Void visitDoWhileLoop(DoWhileLoopTree tree, Void v) {
            hasEnd(tree, tree.getCondition());
            return super.visitDoWhileLoop(tree, v);
        }

        /** A counter against a bound is all that the class has need of. */
        private void hasEnd(Tree loop, ExpressionTree condition) {
            if (!condition.toString().matches("\\(\\w+ (<|<=|>|>=) \\w+( && [^|?]*)?\\)")) breaks(9, loop, "a loop while " + condition);
        }
    }

    // ---- sources that break a rule

    static final String[][] BROKEN = {
        {"1", "int shown;"},
        {"1", "void shown() { }"},
        {"1", "public static int shown() { return 1; }"},
        {"1", "public int grass() { return 1; } private int grass(int v) { return v; }"},
        {"1", "public static final class Shown { }"},
        {"2", "private final class Inner { }"},
        {"2", "private interface Doing { int act(int v); } private static final class A { Doing d = v -> v; }"},
        {"2", "private interface Doing { int act(int v); } private static final class A { Doing d = Math::abs; }"},
        {"2", "private interface Doing { int act(); } private static final class A { Doing d = new Doing() { public int act() { return 1; } }; }"},
        {"2", "private static int local() { class Local { } return 1; }"},
        {"3", "private Object any;"},
        {"3", "private int[][][] deep;"},
        {"3", "private String[][] texts;"},
        {"3", "private java.util.Map<String, String> map;"},
        {"4", "private static int exact(int a) { return Math.addExact(a, 1); }"},
        {"4", "private static double root(double a) { return Math.sqrt(a); }"},
        {"4", "private static long clock() { return System.nanoTime(); }"},
        {"4", "private static int upper(String s) { return s.trim().length(); }"},
        {"5", "private static int count = 0;"},
        {"5", "private static final int[] ROW = new int[3];"},
        {"5", "private static final int[] ROW = {1, 2}; private static int change(int i) { ROW[0] = i; return i; }"},
        {"5", "private static final int[] ROW = {1, 2}; private static int change(int i) { ROW[0]++; return i; }"},
        {"5", "private static final int[] ROW = {1, 2}; private static int[] out() { return ROW; }"},
        {"5", "private static final StringBuilder B = new StringBuilder();"},
        {"5", "static { }"},
        {"6", "private static int thrown(int v) { if (v == 1) { throw new IllegalArgumentException(); } return v; }"},
        {"6", "private static int tried(int v) { try { return v; } finally { v++; } }"},
        {"6", "private static int asserted(int v) { assert v > 0; return v; }"},
        {"6", "private synchronized int locked() { return 1; }"},
        {"6", "private int locked() { synchronized (this) { return 1; } }"},
        {"6", "private static int warned(int v) throws RuntimeException { return v; }"},
        {"6", "private static boolean same(String a, String b) { return a == b; }"},
        {"6", "private static final class A { } private static A cast(Object o) { return (A) o; }"},
        {"6", "private static final class A { public int hashCode() { return 1; } }"},
        {"7", "private static int divided(int a, int b) { return a / b; }"},
        {"7", "private static int rest(int a) { return a % 0; }"},
        {"7", "private static int divided(int a, int b) { a /= b; return a; }"},
        {"7", "private final int[] row; public BellMilk(int n) { row = new int[n]; }"},
        {"8", "private static int again(int n) { return n < 1 ? 0 : again(n - 1); }"},
        {"8", "private static int ping(int n) { return pong(n); } private static int pong(int n) { return n < 1 ? 0 : ping(n - 1); }"},
        {"9", "private static int endless(int n) { for (;;) { n++; if (n > 5) { return n; } } }"},
        {"9", "private static int endless(int n) { while (true) { n++; if (n > 5) { return n; } } }"},
        {"9", "private static int endless(int n) { do { n++; } while (n != 7); return n; }"},
        {"10", "private static String joined(String a) { return a + 1; }"},
        {"11", "private static int many(int a, int b, int c, int d, int e, int f, int g, int h) { return a; }"},
        {"11", "private static int tall() { " + "\n".repeat(61) + " return 1; }"},
        {"11", "private static final class A { int " + names("f", 21) + "; }"},
        {"11", nested(12)},
        {"11", chain(9)},
        {"12", "private int[] made() { return new int[3]; }"},
        {"12", "private static final class A { } private A made() { return new A(); }"},
        {"13", "private static double drawn() { return Math.random(); }"},
    };
    /** All that stands just inside. */
    static final String WHOLE = "private static final int[] ROW = {1, 2}; private static final int TWO = 2; private final int[] row = "
            + "new int[TWO]; private static int read(int i) { int sum = 0; for (int k = 0; k < ROW.length; k++) { sum += ROW[k] / TWO; } "
            + "while (sum > 0 && i > 3) { sum--; } return Math.max(sum, i); } private static final class A { int "
            + names("f", 20) + "; } " + chain(8) + nested(10);

    static String names(String name, int n) {
        List<String> all = new ArrayList<>();
        for (int i = 0; i < n; i++) all.add(name + i);
        return String.join(", ", all);
    }

    static String nested(int n) {
        StringBuilder b = new StringBuilder();
        for (int i = 0; i < n; i++) b.append("private static final class N").append(i).append(" { } ");
        return b.toString();
    }

    static String chain(int n) {
        StringBuilder b = new StringBuilder();
        for (int i = 1; i < n; i++) b.append("private static int c" + i + "() { return c" + (i + 1) + "(); } ");
        return b.append("private static int c" + n + "() { return 1; } ").toString();
    }

    static int wrong = 0;

    static void fail(String what) {
        wrong++;
        System.out.println(what);
    }

    static void brokenSourcesAreFound() throws Exception {
        for (String[] sample : BROKEN) {
            // What rule 13 leaves out is left out by rule 4, too.
            String rule = "rule " + (sample[0].equals("13") ? "4" : sample[0]) + ":";
            Source s = new Source("public final class BellMilk { " + sample[1] + " }");
            if (s.broken.stream().noneMatch(b -> b.startsWith(rule))) fail("not found: " + rule + " " + sample[1] + " " + s.broken);
        }
        Set<String> whole = new Source("public final class BellMilk { " + WHOLE + " }").broken;
        if (!whole.isEmpty()) fail("nothing is broken there, but found were " + whole);
        for (String line : new String[] {"package a; ", "import java.util.Random; ", "class Beside { } "}) {
            if (new Source(line + "public final class BellMilk { }").broken.isEmpty()) fail("not found: " + line);
        }
        if (new Source("public class BellMilk { }").broken.isEmpty()) fail("not found: a class that isn't final");
        if (new Source("public final class BellMilk { } //" + (char) 233).broken.isEmpty()) fail("not found: a strange sign");
    }

    static void theFace(Set<String> face) throws Exception {
        Set<String> due = new TreeSet<>(Arrays.asList(FACE));
        if (!face.equals(due)) fail("the face is " + face + ", due is " + due);
        Path doc = Path.of("../shared/DOC.md");
        if (!Files.isReadable(doc)) {
            System.out.println("the document isn't there: its face wasn't read");
            return;
        }
        Set<String> told = new TreeSet<>();
        for (String line : Files.readAllLines(doc)) {
            if (line.matches(" {4}public .*;")) told.add(line.trim().replace(";", ""));
        }
        if (!told.equals(due)) fail("the document's face is " + told + ", the test's is " + due);
    }

    public static void main(String[] args) throws Exception {
        Source source = new Source(Files.readString(Path.of("src/main/java/BellMilk.java")));
        for (String b : source.broken) fail(b);
        theFace(source.face);
        brokenSourcesAreFound();
        System.out.println(wrong == 0 ? "the rules are kept" : wrong + " rules are broken");
        if (wrong != 0) System.exit(1);
    }
}
