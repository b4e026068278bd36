import com.sun.source.tree.AssertTree;
import com.sun.source.tree.AssignmentTree;
import com.sun.source.tree.BinaryTree;
import com.sun.source.tree.BlockTree;
import com.sun.source.tree.ClassTree;
import com.sun.source.tree.CompilationUnitTree;
import com.sun.source.tree.CompoundAssignmentTree;
import com.sun.source.tree.DoWhileLoopTree;
import com.sun.source.tree.ExpressionTree;
import com.sun.source.tree.ForLoopTree;
import com.sun.source.tree.IdentifierTree;
import com.sun.source.tree.ImportTree;
import com.sun.source.tree.InstanceOfTree;
import com.sun.source.tree.LambdaExpressionTree;
import com.sun.source.tree.LiteralTree;
import com.sun.source.tree.MemberReferenceTree;
import com.sun.source.tree.MemberSelectTree;
import com.sun.source.tree.MethodInvocationTree;
import com.sun.source.tree.MethodTree;
import com.sun.source.tree.NewArrayTree;
import com.sun.source.tree.NewClassTree;
import com.sun.source.tree.ParenthesizedTree;
import com.sun.source.tree.StatementTree;
import com.sun.source.tree.SynchronizedTree;
import com.sun.source.tree.ThrowTree;
import com.sun.source.tree.Tree;
import com.sun.source.tree.TryTree;
import com.sun.source.tree.TypeCastTree;
import com.sun.source.tree.UnaryTree;
import com.sun.source.tree.VariableTree;
import com.sun.source.tree.WhileLoopTree;
import com.sun.source.util.JavacTask;
import com.sun.source.util.SourcePositions;
import com.sun.source.util.TreePath;
import com.sun.source.util.TreePathScanner;
import com.sun.source.util.Trees;
import java.io.IOException;
import java.net.URI;
import java.util.ArrayList;
import java.util.HashMap;
import java.util.LinkedHashMap;
import java.util.LinkedHashSet;
import java.util.List;
import java.util.Map;
import java.util.Set;
import java.util.TreeSet;
import javax.lang.model.element.Element;
import javax.lang.model.element.ElementKind;
import javax.lang.model.element.ExecutableElement;
import javax.lang.model.element.Modifier;
import javax.lang.model.element.TypeElement;
import javax.lang.model.element.VariableElement;
import javax.lang.model.type.ArrayType;
import javax.lang.model.type.TypeKind;
import javax.lang.model.type.TypeMirror;
import javax.tools.Diagnostic;
import javax.tools.JavaCompiler;
import javax.tools.JavaFileObject;
import javax.tools.SimpleJavaFileObject;
import javax.tools.ToolProvider;

/**
 * Reads the source of the class and says where it breaks a rule of LANGUAGE.md, as far as that can be seen without
 * running it. It is stricter than the rules where the class does without what they allow: no try, no while, no
 * recursion, no instanceof, no enum, no object made but in a constructor (and the exceptions). Where the class needs
 * one of these some day, the rule's part here is to be widened, and the class is to be held to the rest of the rule.
 */
final class SourceRules {
    private static final Set<String> THROWN = Set.of("IllegalStateException", "IllegalArgumentException",
        "IndexOutOfBoundsException", "ArithmeticException", "UnsupportedOperationException", "NoSuchElementException",
        "RuntimeException");
    private static final Set<String> TYPES = Set.of("java.lang.String", "java.lang.StringBuilder", "java.lang.Integer",
        "java.util.List", "java.util.ArrayList");
    private static final Set<String> STRING = Set.of("length", "charAt", "isEmpty", "equals", "indexOf", "substring",
        "toCharArray");
    private static final Set<String> BUILDER = Set.of("append", "charAt", "setCharAt", "setLength", "deleteCharAt",
        "reverse", "length", "toString");
    private static final Set<String> LIST = Set.of("add", "get", "set", "remove", "size", "isEmpty", "clear");
    private static final Set<String> ARRAYS = Set.of("copyOf", "copyOfRange", "fill");
    private static final int MOST_PARAMETERS = 7;
    private static final int MOST_LINES = 60;
    private static final int MOST_CALLS_DEEP = 8;
    private static final int MOST_CLASSES = 12;
    private static final int MOST_FIELDS = 20;

    private final Set<String> faults = new LinkedHashSet<>();
    private final Map<Element, Set<Element>> calls = new LinkedHashMap<>();
    private final Set<String> faceNames = new TreeSet<>();
    private CompilationUnitTree unit;
    private SourcePositions positions;
    private Trees trees;

    SourceRules(String source) throws IOException {
        JavaCompiler compiler = ToolProvider.getSystemJavaCompiler();
        JavacTask task = (JavacTask) compiler.getTask(null, null, this::hear, List.of("-proc:none"), null,
            List.of(inMemory(source)));
        trees = Trees.instance(task);
        positions = trees.getSourcePositions();
        for (CompilationUnitTree u : task.parse()) {
            unit = u;
        }
        task.analyze();
        if (!faults.isEmpty()) {
            return;
        }
        for (Tree t : unit.getTypeDecls()) {
            for (Tree member : ((ClassTree) t).getMembers()) {
                if (member instanceof MethodTree && ((MethodTree) member).getModifiers().getFlags().contains(Modifier.PUBLIC)) {
                    faceNames.add(((MethodTree) member).getName().toString());
                }
            }
        }
        new Reader().scan(unit, null);
        holdCalls();
    }

    List<String> faults() {
        return new ArrayList<>(faults);
    }

    private static JavaFileObject inMemory(String source) {
        return new SimpleJavaFileObject(URI.create("string:///StateObserver.java"), JavaFileObject.Kind.SOURCE) {
            @Override
            public CharSequence getCharContent(boolean ignore) {
                return source;
            }
        };
    }

    private void hear(Diagnostic<? extends JavaFileObject> d) {
        if (d.getKind() == Diagnostic.Kind.ERROR) {
            faults.add("not Java, line " + d.getLineNumber() + ": " + d.getMessage(null));
        }
    }

    private void fault(int rule, long line, String what) {
        faults.add("rule " + rule + ", line " + line + ": " + what);
    }

    private void fault(int rule, Tree at, String what) {
        fault(rule, lineOf(positions.getStartPosition(unit, at)), what);
    }

    private long lineOf(long position) {
        return unit.getLineMap().getLineNumber(position);
    }

    // ---- rules 8 and 11: how calls hang together

    private void holdCalls() {
        Map<Element, Integer> depths = new HashMap<>();
        for (Element m : calls.keySet()) {
            int depth = depthOf(m, depths, new ArrayList<>());
            if (depth > MOST_CALLS_DEEP) {
                fault(11, lineOf(m), m + " begins " + depth + " calls");
            }
        }
    }

    /** How many calls stand open at most, this one and those of the library among them. */
    private int depthOf(Element m, Map<Element, Integer> depths, List<Element> open) {
        if (open.contains(m)) {
            fault(8, lineOf(m), m + " calls itself");
            return 0;
        }
        if (!depths.containsKey(m)) {
            int deepest = 0;
            open.add(m);
            for (Element called : calls.getOrDefault(m, Set.of())) {
                deepest = Math.max(deepest, depthOf(called, depths, open));
            }
            open.remove(m);
            depths.put(m, deepest + 1);
        }
        return depths.get(m);
    }

    private long lineOf(Element m) {
        Tree t = trees.getTree(m);
        return t == null ? 0 : lineOf(positions.getStartPosition(unit, t));
    }

    // ---- the other rules

    private final class Reader extends TreePathScanner<Void, Void> {
        private int classes = 0;

        @Override
        public Void visitCompilationUnit(CompilationUnitTree t, Void v) {
            if (t.getPackage() != null || t.getTypeDecls().size() != 1) {
                fault(1, 1, "one class without a package");
            }
            return super.visitCompilationUnit(t, v);
        }

        @Override
        public Void visitImport(ImportTree t, Void v) {
            String name = t.getQualifiedIdentifier().toString();
            Set<String> allowed = Set.of("java.util.ArrayList", "java.util.List", "java.util.Arrays", "java.util.Iterator",
                "java.util.NoSuchElementException");
            if (t.isStatic() || !allowed.contains(name)) {
                fault(4, t, "imports " + name);
            }
            return null;
        }

        @Override
        public Void visitClass(ClassTree t, Void v) {
            classes++;
            Set<Modifier> flags = t.getModifiers().getFlags();
            boolean outermost = getCurrentPath().getParentPath().getLeaf() == unit;
            boolean inside = getCurrentPath().getParentPath().getLeaf() instanceof ClassTree;
            if (outermost && !flags.equals(Set.of(Modifier.PUBLIC, Modifier.FINAL))) {
                fault(1, t, "the class is public and final");
            }
            if (!outermost && (flags.contains(Modifier.PUBLIC) || flags.contains(Modifier.PROTECTED))) {
                fault(1, t, "a class inside is private or package-visible");
            }
            if (!outermost && (!inside || !flags.contains(Modifier.STATIC) || t.getKind() != Tree.Kind.CLASS)) {
                fault(2, t, "a class inside is a static nested class");
            }
            if (classes > MOST_CLASSES) {
                fault(11, t, "too many classes");
            }
            holdMembers(t, outermost);
            return super.visitClass(t, v);
        }

        private void holdMembers(ClassTree t, boolean outermost) {
            int fields = 0;
            for (Tree member : t.getMembers()) {
                if (member instanceof BlockTree) {
                    fault(5, member, "an initialiser block");
                }
                if (member instanceof VariableTree) {
                    VariableTree field = (VariableTree) member;
                    Set<Modifier> flags = field.getModifiers().getFlags();
                    fields += flags.contains(Modifier.STATIC) ? 0 : 1;
                    boolean isNone = field.getName().contentEquals("NONE") && flags.contains(Modifier.PUBLIC);
                    if (outermost && !isNone && !flags.contains(Modifier.PRIVATE)) {
                        fault(1, field, field.getName() + " is no constant of the document");
                    }
                    if (flags.contains(Modifier.STATIC)) {
                        holdConstant(field);
                    }
                }
            }
            if (fields > MOST_FIELDS) {
                fault(11, t, "too many fields");
            }
        }

        private void holdConstant(VariableTree field) {
            VariableElement e = (VariableElement) trees.getElement(new TreePath(getCurrentPath(), field));
            boolean writtenOut = field.getInitializer() instanceof NewArrayTree
                && ((NewArrayTree) field.getInitializer()).getDimensions().isEmpty();
            if (!e.getModifiers().contains(Modifier.FINAL) || e.getConstantValue() == null && !writtenOut) {
                fault(5, field, field.getName() + " is no constant");
            }
        }

        @Override
        public Void visitMethod(MethodTree t, Void v) {
            Element e = trees.getElement(getCurrentPath());
            calls.computeIfAbsent(e, m -> new LinkedHashSet<>());
            boolean ofTheClass = e.getEnclosingElement().getEnclosingElement().getKind() == ElementKind.PACKAGE;
            String name = t.getName().toString();
            Set<Modifier> flags = e.getModifiers();
            if (ofTheClass && !flags.contains(Modifier.PRIVATE) && (!flags.contains(Modifier.PUBLIC) || !isOfTheFace(t))) {
                fault(1, t, name + " is no method of the document");
            }
            if (!(ofTheClass && flags.contains(Modifier.PUBLIC)) && !name.equals("<init>") && faceNames.contains(name)) {
                fault(1, t, name + " bears the name of a public method");
            }
            if (flags.contains(Modifier.SYNCHRONIZED)) {
                fault(6, t, "synchronized");
            }
            if (name.equals("equals") || name.equals("hashCode") || name.equals("toString")) {
                fault(6, t, name + " of an own object");
            }
            if (t.getParameters().size() > MOST_PARAMETERS) {
                fault(11, t, name + " has too many parameters");
            }
            long first = lineOf(positions.getStartPosition(unit, t));
            long last = lineOf(positions.getEndPosition(unit, t));
            if (last - first >= MOST_LINES) {
                fault(11, t, name + " is too long");
            }
            if (t.getReturnType() != null) {
                holdType(t.getReturnType(), trees.getTypeMirror(new TreePath(getCurrentPath(), t.getReturnType())));
            }
            return super.visitMethod(t, v);
        }

        private boolean isOfTheFace(MethodTree t) {
            return FaceTest.isOfTheFace(t.getName().toString(), t.getParameters().size());
        }

        @Override
        public Void visitVariable(VariableTree t, Void v) {
            holdType(t, trees.getTypeMirror(getCurrentPath()));
            return super.visitVariable(t, v);
        }

        private void holdType(Tree at, TypeMirror type) {
            TypeMirror element = type;
            int dimensions = 0;
            while (element.getKind() == TypeKind.ARRAY) {
                element = ((ArrayType) element).getComponentType();
                dimensions++;
            }
            boolean number = element.getKind().isPrimitive() && element.getKind() != TypeKind.BOOLEAN;
            boolean allowed = element.getKind().isPrimitive() || element.getKind() == TypeKind.VOID
                || isOwnOrOfTheList(element, dimensions);
            if (!allowed || dimensions > 2 || dimensions == 2 && !number) {
                fault(3, at, "the type " + type);
            }
        }

        private boolean isOwnOrOfTheList(TypeMirror type, int dimensions) {
            String name = type.toString().replaceFirst("<.*", "");
            return name.startsWith("StateObserver") || dimensions == 0 && TYPES.contains(name);
        }

        @Override
        public Void visitMethodInvocation(MethodInvocationTree t, Void v) {
            ExecutableElement e = (ExecutableElement) trees.getElement(getCurrentPath());
            Element caller = enclosingMethod();
            if (caller != null) {
                calls.computeIfAbsent(caller, m -> new LinkedHashSet<>()).add(e);
            }
            TypeElement owner = (TypeElement) e.getEnclosingElement();
            String from = owner.getQualifiedName().toString();
            String name = e.getSimpleName().toString();
            boolean superOfAConstructor = name.equals("<init>");
            if (!from.startsWith("StateObserver") && !superOfAConstructor && !isOfTheLibrary(from, name, e)) {
                boolean seesTheWorld = from.equals("java.lang.System") || name.equals("random");
                fault(seesTheWorld ? 13 : 4, t, "calls " + from + "." + name);
            }
            boolean divides = name.equals("floorDiv") || name.equals("floorMod");
            if (divides && !isTested(t.getArguments().get(1))) {
                fault(7, t, "divides by " + t.getArguments().get(1));
            }
            return super.visitMethodInvocation(t, v);
        }

        private boolean isOfTheLibrary(String from, String name, ExecutableElement e) {
            switch (from) {
                case "java.lang.String":
                    return STRING.contains(name);
                case "java.lang.StringBuilder":
                    return BUILDER.contains(name);
                case "java.util.List":
                case "java.util.ArrayList":
                    return LIST.contains(name) || name.equals("of") && e.getParameters().size() <= 6;
                case "java.util.Arrays":
                    return ARRAYS.contains(name);
                case "java.lang.System":
                    return name.equals("arraycopy");
                case "java.lang.Math":
                case "java.lang.Integer":
                case "java.lang.Long":
                    return e.getModifiers().contains(Modifier.STATIC) && !name.endsWith("Exact") && isOfIntegers(e);
                default:
                    return false;
            }
        }

        private boolean isOfIntegers(ExecutableElement e) {
            boolean all = !e.getParameters().isEmpty();
            for (VariableElement p : e.getParameters()) {
                all &= p.asType().getKind() == TypeKind.INT || p.asType().getKind() == TypeKind.LONG;
            }
            return all;
        }

        private Element enclosingMethod() {
            MethodTree m = enclosingMethodTree();
            return m == null ? null : trees.getElement(trees.getPath(unit, m));
        }

        private MethodTree enclosingMethodTree() {
            for (TreePath p = getCurrentPath(); p != null; p = p.getParentPath()) {
                if (p.getLeaf() instanceof MethodTree) {
                    return (MethodTree) p.getLeaf();
                }
            }
            return null;
        }

        @Override
        public Void visitMemberSelect(MemberSelectTree t, Void v) {
            Element e = trees.getElement(getCurrentPath());
            boolean foreign = e != null && e.getKind() == ElementKind.FIELD && !t.getIdentifier().contentEquals("length")
                && !e.getEnclosingElement().toString().startsWith("StateObserver");
            if (foreign) {
                fault(4, t, "the library's " + t);
            }
            return super.visitMemberSelect(t, v);
        }

        @Override
        public Void visitLiteral(LiteralTree t, Void v) {
            String text = t.getValue() instanceof String || t.getValue() instanceof Character ? t.getValue().toString() : "";
            for (int i = 0; i < text.length(); i++) {
                if (text.charAt(i) < 1 || text.charAt(i) > 127) {
                    fault(4, t, "a sign beyond 1 to 127");
                }
            }
            return super.visitLiteral(t, v);
        }

        // ---- objects and exceptions

        @Override
        public Void visitNewClass(NewClassTree t, Void v) {
            boolean thrown = getCurrentPath().getParentPath().getLeaf() instanceof ThrowTree;
            holdMaking(t, thrown);
            return super.visitNewClass(t, v);
        }

        @Override
        public Void visitNewArray(NewArrayTree t, Void v) {
            holdMaking(t, false);
            for (ExpressionTree length : t.getDimensions()) {
                if (!isPositiveConstant(length)) {
                    fault(7, t, "an array of the length " + length);
                }
            }
            return super.visitNewArray(t, v);
        }

        private void holdMaking(Tree t, boolean thrown) {
            MethodTree m = enclosingMethodTree();
            boolean inConstructor = m == null || m.getName().contentEquals("<init>");
            if (!inConstructor && !thrown) {
                fault(12, t, "makes an object behind the constructor");
            }
        }

        @Override
        public Void visitThrow(ThrowTree t, Void v) {
            NewClassTree made = t.getExpression() instanceof NewClassTree ? (NewClassTree) t.getExpression() : null;
            boolean written = made != null && THROWN.contains(made.getIdentifier().toString()) && made.getClassBody() == null;
            if (written) {
                for (ExpressionTree argument : made.getArguments()) {
                    written &= made.getArguments().size() == 1 && argument.getKind() == Tree.Kind.STRING_LITERAL;
                }
            }
            MethodTree m = enclosingMethodTree();
            if (!written || m == null || m.getName().contentEquals("<init>")) {
                fault(6, t, "throws " + t.getExpression());
            }
            return super.visitThrow(t, v);
        }

        @Override
        public Void visitTry(TryTree t, Void v) {
            fault(6, t, "the class does without try");
            return super.visitTry(t, v);
        }

        @Override
        public Void visitAssert(AssertTree t, Void v) {
            fault(6, t, "assert");
            return super.visitAssert(t, v);
        }

        @Override
        public Void visitSynchronized(SynchronizedTree t, Void v) {
            fault(6, t, "synchronized");
            return super.visitSynchronized(t, v);
        }

        @Override
        public Void visitInstanceOf(InstanceOfTree t, Void v) {
            fault(6, t, "the class does without instanceof");
            return super.visitInstanceOf(t, v);
        }

        @Override
        public Void visitTypeCast(TypeCastTree t, Void v) {
            if (!trees.getTypeMirror(new TreePath(getCurrentPath(), t.getType())).getKind().isPrimitive()) {
                fault(6, t, "the class does without casts of objects");
            }
            return super.visitTypeCast(t, v);
        }

        @Override
        public Void visitLambdaExpression(LambdaExpressionTree t, Void v) {
            fault(2, t, "a lambda");
            return super.visitLambdaExpression(t, v);
        }

        @Override
        public Void visitMemberReference(MemberReferenceTree t, Void v) {
            fault(2, t, "a method reference");
            return super.visitMemberReference(t, v);
        }

        // ---- divisors, loops, texts

        @Override
        public Void visitBinary(BinaryTree t, Void v) {
            holdDivisor(t, t.getRightOperand(), t.getKind() == Tree.Kind.DIVIDE || t.getKind() == Tree.Kind.REMAINDER);
            boolean ofTexts = isText(t.getLeftOperand()) || isText(t.getRightOperand());
            if (ofTexts && t.getKind() == Tree.Kind.PLUS) {
                fault(10, t, "joins texts by +");
            }
            if (ofTexts && (t.getKind() == Tree.Kind.EQUAL_TO || t.getKind() == Tree.Kind.NOT_EQUAL_TO)) {
                fault(6, t, "compares texts by ==");
            }
            return super.visitBinary(t, v);
        }

        @Override
        public Void visitCompoundAssignment(CompoundAssignmentTree t, Void v) {
            holdDivisor(t, t.getExpression(),
                t.getKind() == Tree.Kind.DIVIDE_ASSIGNMENT || t.getKind() == Tree.Kind.REMAINDER_ASSIGNMENT);
            if (isText(t.getVariable())) {
                fault(10, t, "joins texts by +=");
            }
            return super.visitCompoundAssignment(t, v);
        }

        private boolean isText(ExpressionTree t) {
            TypeMirror type = trees.getTypeMirror(new TreePath(getCurrentPath(), t));
            return type != null && type.toString().equals("java.lang.String");
        }

        private void holdDivisor(Tree at, ExpressionTree divisor, boolean divides) {
            if (divides && !isTested(divisor)) {
                fault(7, at, "divides by " + divisor);
            }
        }

        /** A constant that is greater than 0, or a variable that the same method compares with a number. */
        private boolean isTested(ExpressionTree divisor) {
            MethodTree m = enclosingMethodTree();
            return isPositiveConstant(divisor)
                || divisor instanceof IdentifierTree && m != null && isComparedWithANumber(m, divisor.toString());
        }

        private boolean isPositiveConstant(ExpressionTree t) {
            Element e = trees.getElement(new TreePath(getCurrentPath(), t));
            Object value = t instanceof LiteralTree ? ((LiteralTree) t).getValue()
                : e instanceof VariableElement ? ((VariableElement) e).getConstantValue() : null;
            return value instanceof Number && ((Number) value).longValue() > 0;
        }

        private boolean isComparedWithANumber(MethodTree m, String name) {
            boolean[] found = {false};
            new TreePathScanner<Void, Void>() {
                @Override
                public Void visitBinary(BinaryTree t, Void v) {
                    boolean compares = t.getKind() == Tree.Kind.EQUAL_TO || t.getKind() == Tree.Kind.GREATER_THAN;
                    found[0] |= compares && t.getLeftOperand().toString().equals(name)
                        && t.getRightOperand() instanceof LiteralTree;
                    return super.visitBinary(t, v);
                }
            }.scan(trees.getPath(unit, m), null);
            return found[0];
        }

        @Override
        public Void visitWhileLoop(WhileLoopTree t, Void v) {
            fault(9, t, "the class does without while");
            return super.visitWhileLoop(t, v);
        }

        @Override
        public Void visitDoWhileLoop(DoWhileLoopTree t, Void v) {
            fault(9, t, "the class does without do");
            return super.visitDoWhileLoop(t, v);
        }

        @Override
        public Void visitForLoop(ForLoopTree t, Void v) {
            if (!hasAnEnd(t)) {
                fault(9, t, "a loop whose end its lines do not show");
            }
            return super.visitForLoop(t, v);
        }

        /** A counter that goes up (or down) by 1 below (or above) a bound, both left alone by the body. */
        private boolean hasAnEnd(ForLoopTree t) {
            if (t.getInitializer().size() != 1 || !(t.getInitializer().get(0) instanceof VariableTree)
                    || t.getUpdate().size() != 1) {
                return false;
            }
            String counter = ((VariableTree) t.getInitializer().get(0)).getName().toString();
            String update = t.getUpdate().get(0).toString().replace(";", "");
            boolean up = update.equals(counter + "++");
            boolean down = update.equals(counter + "--");
            List<ExpressionTree> bounds = new ArrayList<>();
            collectBounds(t.getCondition(), counter, up, bounds);
            Set<String> changed = changedBy(t.getStatement());
            boolean found = false;
            for (ExpressionTree bound : bounds) {
                found |= !changed.contains(bound.toString());
            }
            return (up || down) && found && !changed.contains(counter);
        }

        /** The bounds of the counter that stand alone or are joined with others by && in the condition. */
        private void collectBounds(ExpressionTree condition, String counter, boolean up, List<ExpressionTree> bounds) {
            if (condition instanceof ParenthesizedTree) {
                collectBounds(((ParenthesizedTree) condition).getExpression(), counter, up, bounds);
            }
            if (!(condition instanceof BinaryTree)) {
                return;
            }
            BinaryTree b = (BinaryTree) condition;
            if (b.getKind() == Tree.Kind.CONDITIONAL_AND) {
                collectBounds(b.getLeftOperand(), counter, up, bounds);
                collectBounds(b.getRightOperand(), counter, up, bounds);
            }
            boolean below = b.getKind() == Tree.Kind.LESS_THAN || b.getKind() == Tree.Kind.LESS_THAN_EQUAL;
            boolean above = b.getKind() == Tree.Kind.GREATER_THAN || b.getKind() == Tree.Kind.GREATER_THAN_EQUAL;
            if ((up ? below : above) && b.getLeftOperand().toString().equals(counter)) {
                bounds.add(b.getRightOperand());
            }
        }

        private Set<String> changedBy(StatementTree body) {
            Set<String> changed = new TreeSet<>();
            new TreePathScanner<Void, Void>() {
                @Override
                public Void visitAssignment(AssignmentTree t, Void v) {
                    changed.add(t.getVariable().toString());
                    return super.visitAssignment(t, v);
                }

                @Override
                public Void visitCompoundAssignment(CompoundAssignmentTree t, Void v) {
                    changed.add(t.getVariable().toString());
                    return super.visitCompoundAssignment(t, v);
                }

                @Override
                public Void visitUnary(UnaryTree t, Void v) {
                    boolean counts = t.getKind() != Tree.Kind.UNARY_MINUS && t.getKind() != Tree.Kind.LOGICAL_COMPLEMENT;
                    if (counts) {
                        changed.add(t.getExpression().toString());
                    }
                    return super.visitUnary(t, v);
                }
            }.scan(trees.getPath(unit, body), null);
            return changed;
        }
    }
}
