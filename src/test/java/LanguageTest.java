import com.sun.source.tree.ArrayAccessTree;
import com.sun.source.tree.AssertTree;
import com.sun.source.tree.BinaryTree;
import com.sun.source.tree.BlockTree;
import com.sun.source.tree.ClassTree;
import com.sun.source.tree.CompilationUnitTree;
import com.sun.source.tree.CompoundAssignmentTree;
import com.sun.source.tree.DoWhileLoopTree;
import com.sun.source.tree.ExpressionTree;
import com.sun.source.tree.ForLoopTree;
import com.sun.source.tree.IdentifierTree;
import com.sun.source.tree.ImportTree;
import com.sun.source.tree.LambdaExpressionTree;
import com.sun.source.tree.LiteralTree;
import com.sun.source.tree.MemberReferenceTree;
import com.sun.source.tree.MethodInvocationTree;
import com.sun.source.tree.MethodTree;
import com.sun.source.tree.NewArrayTree;
import com.sun.source.tree.NewClassTree;
import com.sun.source.tree.SynchronizedTree;
import com.sun.source.tree.ThrowTree;
import com.sun.source.tree.Tree;
import com.sun.source.tree.TryTree;
import com.sun.source.tree.TypeCastTree;
import com.sun.source.tree.VariableTree;
import com.sun.source.tree.WhileLoopTree;
import com.sun.source.util.JavacTask;
import com.sun.source.util.SourcePositions;
import com.sun.source.util.TreePath;
import com.sun.source.util.TreePathScanner;
import com.sun.source.util.TreeScanner;
import com.sun.source.util.Trees;
import java.io.IOException;
import java.nio.file.Files;
import java.nio.file.Path;
import java.util.HashMap;
import java.util.HashSet;
import java.util.List;
import java.util.Map;
import java.util.Set;
import java.util.TreeSet;
import javax.lang.model.element.Element;
import javax.lang.model.element.ElementKind;
import javax.lang.model.element.ExecutableElement;
import javax.lang.model.element.Modifier;
import javax.lang.model.element.TypeElement;
import javax.lang.model.element.VariableElement;
import javax.lang.model.type.ArrayType;
import javax.lang.model.type.TypeKind;
import javax.lang.model.type.TypeMirror;
import javax.tools.JavaCompiler;
import javax.tools.StandardJavaFileManager;
import javax.tools.ToolProvider;

/**
 * Holds the class's source, as the compiler reads it, against the rules of LANGUAGE.md. Where the rules leave more than the
 * class needs (texts, lists, exceptions that the document would name), what it needs is held, and no more.
 */
public final class LanguageTest {
    private static final Path SOURCE = Path.of("src/main/java/TwoLaws.java");
    private static final Set<String> LIBRARY = Set.of("java.lang.Math.abs", "java.lang.Math.max", "java.lang.Math.min",
        "java.lang.Math.floorDiv", "java.lang.Math.floorMod", "java.lang.Integer.bitCount", "java.util.Arrays.fill",
        "java.lang.System.arraycopy");
    private static final Set<TypeKind> NUMBERS = Set.of(TypeKind.INT, TypeKind.LONG, TypeKind.SHORT, TypeKind.BYTE, TypeKind.CHAR,
        TypeKind.BOOLEAN);
    private static final Set<Tree.Kind> COMPARISONS = Set.of(Tree.Kind.LESS_THAN, Tree.Kind.LESS_THAN_EQUAL, Tree.Kind.GREATER_THAN,
        Tree.Kind.GREATER_THAN_EQUAL, Tree.Kind.EQUAL_TO, Tree.Kind.NOT_EQUAL_TO);
    private static final Set<Tree.Kind> DIVISIONS = Set.of(Tree.Kind.DIVIDE, Tree.Kind.REMAINDER, Tree.Kind.DIVIDE_ASSIGNMENT,
        Tree.Kind.REMAINDER_ASSIGNMENT);
    private static final int MOST_LINES = 60, MOST_PARAMETERS = 7, MOST_DEPTH = 8, MOST_CLASSES = 12, MOST_FIELDS = 20;

    private final Trees trees;
    private final SourcePositions places;
    private final CompilationUnitTree unit;
    private final Map<Element, Set<Element>> calls = new HashMap<>();
    private final Set<String> face = new HashSet<>();
    private int classes = 0;

    private LanguageTest(JavacTask task, CompilationUnitTree unit) {
        this.trees = Trees.instance(task);
        this.places = trees.getSourcePositions();
        this.unit = unit;
    }

    public static void main(String[] args) throws IOException {
        plainText();
        JavaCompiler compiler = ToolProvider.getSystemJavaCompiler();
        try (StandardJavaFileManager files = compiler.getStandardFileManager(null, null, null)) {
            JavacTask task = (JavacTask) compiler.getTask(null, files, null, List.of("-proc:none"), null, files.getJavaFileObjects(SOURCE));
            CompilationUnitTree unit = task.parse().iterator().next();
            task.analyze();
            new LanguageTest(task, unit).holdAll();
        }
        Due.end();
    }

    /** Rule 4: a constant's signs are 1 to 127; the whole file keeps to that. */
    private static void plainText() throws IOException {
        String text = Files.readString(SOURCE);
        Due.hold("4: signs are plain", text.chars().allMatch(c -> c == '\n' || c >= 32 && c < 127));
    }

    private void holdAll() {
        Due.hold("the program has no package line", unit.getPackageName() == null);
        Due.hold("one class in the file", unit.getTypeDecls().size() == 1);
        for (ImportTree i : unit.getImports()) {
            Due.hold("4: " + i + " is allowed", !i.isStatic() && i.getQualifiedIdentifier().toString().equals("java.util.Arrays"));
        }
        new FaceNames().scan(unit, null);
        new Rules().scan(unit, null);
        Due.hold("11: " + classes + " classes", classes <= MOST_CLASSES);
        for (Element from : calls.keySet()) {
            Due.hold("8, 11: no call goes deeper than eight from " + from, depth(from, new HashSet<>()) <= MOST_DEPTH);
        }
    }

    /** How many calls stand open at most; far too many, if a method comes back to itself. */
    private int depth(Element from, Set<Element> open) {
        if (!open.add(from)) {
            return 1000;
        }
        int most = 0;
        for (Element to : calls.getOrDefault(from, Set.of())) {
            most = Math.max(most, depth(to, open));
        }
        open.remove(from);
        return 1 + most;
    }

    private long line(Tree t) {
        return unit.getLineMap().getLineNumber(places.getStartPosition(unit, t));
    }

    private long lastLine(Tree t) {
        return unit.getLineMap().getLineNumber(places.getEndPosition(unit, t));
    }

    private static boolean isOwn(Element e) {
        for (Element at = e; at != null; at = at.getEnclosingElement()) {
            if (at instanceof TypeElement type && type.getQualifiedName().contentEquals("TwoLaws")) {
                return true;
            }
        }
        return false;
    }

    private final class FaceNames extends TreePathScanner<Void, Void> {
        @Override
        public Void visitMethod(MethodTree m, Void v) {
            if (m.getModifiers().getFlags().contains(Modifier.PUBLIC)) {
                face.add(m.getName().toString());
            }
            return super.visitMethod(m, v);
        }
    }

    /** Every name that stands in a tree. */
    private static Set<String> names(Tree tree) {
        Set<String> names = new TreeSet<>();
        new TreeScanner<Void, Void>() {
            @Override
            public Void visitIdentifier(IdentifierTree id, Void v) {
                names.add(id.getName().toString());
                return null;
            }
        }.scan(tree, null);
        return names;
    }

    /** The names that a method compares, or puts to one of its questions (methods that answer yes or no). */
    private Set<String> lookedAt(TreePath method) {
        Set<String> looked = new TreeSet<>();
        new TreePathScanner<Void, Void>() {
            @Override
            public Void visitBinary(BinaryTree b, Void v) {
                if (COMPARISONS.contains(b.getKind())) {
                    looked.addAll(names(b));
                }
                return super.visitBinary(b, v);
            }

            @Override
            public Void visitMethodInvocation(MethodInvocationTree call, Void v) {
                Element e = trees.getElement(getCurrentPath());
                if (e instanceof ExecutableElement m && m.getReturnType().getKind() == TypeKind.BOOLEAN) {
                    call.getArguments().forEach(a -> looked.addAll(names(a)));
                }
                return super.visitMethodInvocation(call, v);
            }
        }.scan(method, null);
        return looked;
    }

    private final class Rules extends TreePathScanner<Void, Void> {
        private Element method = null;
        private TreePath methodPath = null;

        private void barred(int rule, Tree t) {
            Due.hold(rule + ": line " + line(t) + " has no " + t.getKind(), false);
        }

        private String at(Tree t) {
            return " (line " + line(t) + ")";
        }

        @Override
        public Void visitClass(ClassTree c, Void v) {
            classes++;
            Element e = trees.getElement(getCurrentPath());
            boolean isOuter = e.getEnclosingElement().getKind() == ElementKind.PACKAGE;
            Set<Modifier> flags = c.getModifiers().getFlags();
            Due.hold("1: " + c.getSimpleName() + "'s flags", isOuter ? flags.equals(Set.of(Modifier.PUBLIC, Modifier.FINAL))
                : flags.contains(Modifier.STATIC) && !flags.contains(Modifier.PUBLIC) && !flags.contains(Modifier.PROTECTED));
            Due.hold("2: " + c.getSimpleName() + " is no local class", method == null);
            int fields = 0;
            for (Tree member : c.getMembers()) {
                fields += member instanceof VariableTree f && !f.getModifiers().getFlags().contains(Modifier.STATIC) ? 1 : 0;
                Due.hold("5: no block of a class" + at(member), !(member instanceof BlockTree));
            }
            Due.hold("11: " + c.getSimpleName() + " has " + fields + " fields", fields <= MOST_FIELDS);
            return super.visitClass(c, v);
        }

        @Override
        public Void visitMethod(MethodTree m, Void v) {
            Element was = method;
            TreePath wasPath = methodPath;
            method = trees.getElement(getCurrentPath());
            methodPath = getCurrentPath();
            calls.computeIfAbsent(method, k -> new HashSet<>());
            boolean isOfFace = m.getModifiers().getFlags().contains(Modifier.PUBLIC);
            Due.hold("1: only the face is open: " + m.getName(), isOfFace || isOfNested() || isPrivate(m));
            Due.hold("1: no other method has a name of the face: " + m.getName(),
                isOfFace || m.getName().contentEquals("<init>") || !face.contains(m.getName().toString()));
            Due.hold("6: " + m.getName() + " declares no exception", m.getThrows().isEmpty());
            Due.hold("11: parameters of " + m.getName(), m.getParameters().size() <= MOST_PARAMETERS);
            if (places.getEndPosition(unit, m) >= 0 && m.getBody() != null && places.getEndPosition(unit, m.getBody()) >= 0) {
                Due.hold("11: lines of " + m.getName(), lastLine(m) - line(m) < MOST_LINES);
            }
            super.visitMethod(m, v);
            method = was;
            methodPath = wasPath;
            return null;
        }

        private boolean isOfNested() {
            return method.getEnclosingElement().getEnclosingElement().getKind() != ElementKind.PACKAGE;
        }

        private static boolean isPrivate(MethodTree m) {
            return m.getModifiers().getFlags().contains(Modifier.PRIVATE);
        }

        private boolean isConstructor() {
            return method != null && method.getKind() == ElementKind.CONSTRUCTOR;
        }

        @Override
        public Void visitVariable(VariableTree f, Void v) {
            VariableElement e = (VariableElement) trees.getElement(getCurrentPath());
            Due.hold("3: the type of " + f.getName() + at(f), isAllowed(e.asType()));
            if (e.getModifiers().contains(Modifier.STATIC)) {
                Due.hold("5: " + f.getName() + " is a constant", e.getModifiers().contains(Modifier.FINAL) && e.getConstantValue() != null);
            }
            if (e.getKind() == ElementKind.FIELD && !isOfNestedField(e)) {
                Set<Modifier> flags = e.getModifiers();
                Due.hold("1: " + f.getName() + " is a constant of the face, or private",
                    flags.contains(Modifier.PRIVATE) || flags.containsAll(Set.of(Modifier.PUBLIC, Modifier.STATIC, Modifier.FINAL)));
            }
            return super.visitVariable(f, v);
        }

        private boolean isOfNestedField(Element e) {
            return e.getEnclosingElement().getEnclosingElement().getKind() != ElementKind.PACKAGE;
        }

        private boolean isAllowed(TypeMirror type) {
            if (type instanceof ArrayType array) {
                return array.getComponentType().getKind() != TypeKind.ARRAY && isAllowed(array.getComponentType());
            }
            return NUMBERS.contains(type.getKind()) || type.getKind() == TypeKind.DECLARED && isOwn(((javax.lang.model.type.DeclaredType) type).asElement());
        }

        @Override
        public Void visitMethodInvocation(MethodInvocationTree call, Void v) {
            Element to = trees.getElement(getCurrentPath());
            boolean isSuper = call.getMethodSelect().toString().equals("super");
            if (isOwn(to)) {
                calls.computeIfAbsent(method, k -> new HashSet<>()).add(to);
            } else if (!isSuper) {
                String name = to.getEnclosingElement() + "." + to.getSimpleName();
                Due.hold("4: " + name + at(call), LIBRARY.contains(name));
            }
            Due.hold("12: a constructor calls no method" + at(call), !isConstructor() || isSuper);
            return super.visitMethodInvocation(call, v);
        }

        @Override
        public Void visitNewClass(NewClassTree n, Void v) {
            Due.hold("3, 12: " + n + " is made with the object" + at(n), (method == null || isConstructor())
                && isOwn(trees.getElement(getCurrentPath())) && n.getClassBody() == null);
            Due.hold("12: " + n + " is handed nothing", n.getArguments().isEmpty());
            return super.visitNewClass(n, v);
        }

        @Override
        public Void visitNewArray(NewArrayTree n, Void v) {
            Due.hold("12: an array is made with the object" + at(n), method == null);
            for (ExpressionTree length : n.getDimensions()) {
                Due.hold("7: its length is a constant" + at(n), names(length).stream().allMatch(s -> s.equals(s.toUpperCase())));
            }
            return super.visitNewArray(n, v);
        }

        @Override
        public Void visitArrayAccess(ArrayAccessTree a, Void v) {
            Set<String> unseen = names(a.getIndex());
            unseen.removeAll(lookedAt(methodPath));
            Due.hold("7: an index is looked at: " + a + at(a) + " " + unseen, unseen.isEmpty());
            return super.visitArrayAccess(a, v);
        }

        @Override
        public Void visitBinary(BinaryTree b, Void v) {
            if (DIVISIONS.contains(b.getKind())) {
                divisor(b, b.getRightOperand());
            }
            return super.visitBinary(b, v);
        }

        @Override
        public Void visitCompoundAssignment(CompoundAssignmentTree c, Void v) {
            if (DIVISIONS.contains(c.getKind())) {
                divisor(c, c.getExpression());
            }
            return super.visitCompoundAssignment(c, v);
        }

        /** A number that is not 0, a constant, or what the method has looked at. */
        private void divisor(Tree at, ExpressionTree divisor) {
            boolean isNumber = divisor instanceof LiteralTree l && !l.getValue().equals(0);
            Set<String> unseen = names(divisor);
            unseen.removeIf(s -> s.equals(s.toUpperCase()));
            unseen.removeAll(lookedAt(methodPath));
            Due.hold("7: a divisor is looked at" + at(at), isNumber || !names(divisor).isEmpty() && unseen.isEmpty());
        }

        @Override
        public Void visitTypeCast(TypeCastTree c, Void v) {
            TypeMirror to = trees.getTypeMirror(new TreePath(getCurrentPath(), c.getType()));
            Due.hold("7: casts are among numbers" + at(c), NUMBERS.contains(to.getKind()));
            return super.visitTypeCast(c, v);
        }

        @Override
        public Void visitForLoop(ForLoopTree loop, Void v) {
            Due.hold("9: an end and a counter" + at(loop), loop.getCondition() != null && !loop.getUpdate().isEmpty());
            bounded(loop, loop.getCondition());
            return super.visitForLoop(loop, v);
        }

        @Override
        public Void visitWhileLoop(WhileLoopTree loop, Void v) {
            bounded(loop, loop.getCondition());
            return super.visitWhileLoop(loop, v);
        }

        @Override
        public Void visitDoWhileLoop(DoWhileLoopTree loop, Void v) {
            bounded(loop, loop.getCondition());
            return super.visitDoWhileLoop(loop, v);
        }

        private void bounded(Tree loop, Tree condition) {
            boolean[] compares = new boolean[1];
            new TreeScanner<Void, Void>() {
                @Override
                public Void visitBinary(BinaryTree b, Void v) {
                    compares[0] |= b.getKind() == Tree.Kind.LESS_THAN || b.getKind() == Tree.Kind.LESS_THAN_EQUAL
                        || b.getKind() == Tree.Kind.GREATER_THAN_EQUAL;
                    return super.visitBinary(b, v);
                }
            }.scan(condition, null);
            Due.hold("9: a counter against a bound" + at(loop), compares[0]);
        }

        @Override
        public Void visitIdentifier(IdentifierTree id, Void v) {
            Due.hold("12: a constructor does not name itself" + at(id), !isConstructor() || !id.getName().contentEquals("this"));
            return super.visitIdentifier(id, v);
        }

        @Override
        public Void visitLiteral(LiteralTree l, Void v) {
            Due.hold("3, 10: no text, no broken number" + at(l), !Set.of(Tree.Kind.STRING_LITERAL, Tree.Kind.DOUBLE_LITERAL,
                Tree.Kind.FLOAT_LITERAL).contains(l.getKind()));
            return super.visitLiteral(l, v);
        }

        @Override
        public Void visitLambdaExpression(LambdaExpressionTree t, Void v) {
            barred(2, t);
            return null;
        }

        @Override
        public Void visitMemberReference(MemberReferenceTree t, Void v) {
            barred(2, t);
            return null;
        }

        @Override
        public Void visitThrow(ThrowTree t, Void v) {
            barred(6, t);
            return null;
        }

        @Override
        public Void visitTry(TryTree t, Void v) {
            barred(6, t);
            return null;
        }

        @Override
        public Void visitSynchronized(SynchronizedTree t, Void v) {
            barred(6, t);
            return null;
        }

        @Override
        public Void visitAssert(AssertTree t, Void v) {
            barred(6, t);
            return null;
        }
    }
}
