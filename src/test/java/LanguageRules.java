import com.sun.source.tree.*;
import com.sun.source.util.JavacTask;
import com.sun.source.util.TreePath;
import com.sun.source.util.TreePathScanner;
import com.sun.source.util.Trees;
import java.nio.file.Path;
import java.util.HashMap;
import java.util.HashSet;
import java.util.LinkedHashMap;
import java.util.LinkedHashSet;
import java.util.List;
import java.util.Map;
import java.util.Set;
import javax.lang.model.element.Element;
import javax.lang.model.element.ElementKind;
import javax.lang.model.element.ExecutableElement;
import javax.lang.model.element.Modifier;
import javax.lang.model.element.TypeElement;
import javax.lang.model.type.TypeKind;
import javax.tools.JavaCompiler;
import javax.tools.StandardJavaFileManager;
import javax.tools.ToolProvider;

/**
 * Reads SunHouse.java as the compiler does and tells what ../shared/LANGUAGE.md does not allow. It knows the part of
 * the rules that the file has use for: what it knows nothing of, it refuses.
 */
public final class LanguageRules {
    private static final int MOST_LINES = 60;
    private static final int MOST_PARAMETERS = 7;
    private static final int MOST_DEEP = 8;
    private static final int MOST_CLASSES = 12;
    private static final int MOST_FIELDS = 20;

    private static final Set<String> LIBRARY = Set.of(
        "java.lang.Math.max", "java.lang.Math.min", "java.lang.Math.abs", "java.lang.Integer.bitCount",
        "java.lang.System.arraycopy", "java.util.Arrays.fill");
    private static final Set<String> MADE = Set.of("IllegalArgumentException", "IllegalStateException");

    /** The tests of an index, a divisor, a length stand here alone; all else goes through them. */
    private static final Set<String> INDEXERS = Set.of("at", "lay", "shelfAt", "seekerOf", "House", "SunHouse", "takeAll",
        "beginPart");

    private static int wrong = 0;
    private static Trees trees;
    private static CompilationUnitTree unit;

    private static void tell(Tree where, String what) {
        wrong++;
        long at = trees.getSourcePositions().getStartPosition(unit, where);
        System.out.println("line " + unit.getLineMap().getLineNumber(at) + ": " + what);
    }

    public static void main(String[] args) throws Exception {
        JavaCompiler compiler = ToolProvider.getSystemJavaCompiler();
        StandardJavaFileManager files = compiler.getStandardFileManager(null, null, null);
        JavacTask task = (JavacTask) compiler.getTask(null, files, null, List.of("-proc:none"), null,
            files.getJavaFileObjects(Path.of(args[0])));
        trees = Trees.instance(task);
        unit = task.parse().iterator().next();
        task.analyze();
        Rules rules = new Rules();
        rules.scan(unit, null);
        rules.face();
        rules.depths();
        System.out.println("LanguageRules: " + (wrong == 0 ? "nothing found" : wrong + " found"));
        System.exit(wrong == 0 ? 0 : 1);
    }

    private static final class Rules extends TreePathScanner<Void, Void> {
        private final Map<String, Set<String>> calls = new LinkedHashMap<>();
        private final Map<String, Tree> methods = new HashMap<>();
        private final Set<String> publicNames = new HashSet<>();
        private final Set<String> otherNames = new LinkedHashSet<>();
        private final Set<String> library = new LinkedHashSet<>();
        private int classes = 0;
        private MethodTree inside;

        private Element element(Tree t) {
            return trees.getElement(new TreePath(getCurrentPath(), t));
        }

        private Element here() {
            return trees.getElement(getCurrentPath());
        }

        private static String nameOf(Element method) {
            return method.getEnclosingElement().getSimpleName() + "." + method;
        }

        // ---- rules 1, 2, 5, 11, 12: classes and members

        @Override
        public Void visitClass(ClassTree c, Void v) {
            classes++;
            TypeElement type = (TypeElement) here();
            boolean outer = type.getEnclosingElement().getKind() == ElementKind.PACKAGE;
            if (!outer && (!type.getModifiers().contains(Modifier.STATIC) || type.getModifiers().contains(Modifier.PUBLIC))) {
                tell(c, "a class inside is private or package-visible, and static");
            }
            int fields = 0;
            for (Element e : type.getEnclosedElements()) {
                Set<Modifier> m = e.getModifiers();
                if (e.getKind() == ElementKind.FIELD) {
                    fields += m.contains(Modifier.STATIC) ? 0 : 1;
                    if (m.contains(Modifier.STATIC) && !m.contains(Modifier.FINAL)) {
                        tell(c, "a static field that is not final: " + e);
                    }
                }
                boolean isPrivate = m.contains(Modifier.PRIVATE);
                if (outer && !isPrivate && !m.contains(Modifier.PUBLIC)) {
                    tell(c, "a member that is neither public nor private: " + e);
                }
                if (outer && e.getKind() == ElementKind.FIELD && !isPrivate) {
                    tell(c, "a field that is not private: " + e);
                }
                if (e.getKind() == ElementKind.METHOD) {
                    (outer && !isPrivate ? publicNames : otherNames).add(e.getSimpleName().toString());
                }
            }
            if (fields > MOST_FIELDS) {
                tell(c, fields + " fields in " + type.getSimpleName());
            }
            return super.visitClass(c, v);
        }

        @Override
        public Void visitMethod(MethodTree m, Void v) {
            MethodTree around = inside;
            inside = m;
            Element e = here();
            long from = unit.getLineMap().getLineNumber(trees.getSourcePositions().getStartPosition(unit, m));
            long to = unit.getLineMap().getLineNumber(Math.max(0, trees.getSourcePositions().getEndPosition(unit, m)));
            if (to - from + 1 > MOST_LINES) {
                tell(m, "a method of " + (to - from + 1) + " lines: " + m.getName());
            }
            if (m.getParameters().size() > MOST_PARAMETERS) {
                tell(m, "more than seven parameters: " + m.getName());
            }
            if (Set.of("equals", "hashCode", "toString").contains(m.getName().toString())) {
                tell(m, "no equals, hashCode, toString");
            }
            methods.put(nameOf(e), m);
            calls.computeIfAbsent(nameOf(e), k -> new LinkedHashSet<>());
            super.visitMethod(m, v);
            inside = around;
            return null;
        }

        void face() {
            Set<String> due = Set.of("text", "about", "point", "set", "dead", "push", "current", "best", "hump", "held",
                "box", "seek", "led", "lies", "wall", "sun", "lit", "sky", "strength", "hour", "day", "wash", "washed",
                "parting", "trade", "room", "sells", "without", "loss", "faults", "fits", "look", "image", "restore",
                "count", "keep", "row", "put", "element", "copy", "weight", "toss");
            if (!publicNames.equals(due)) {
                tell(unit, "the face is not that of the document: " + publicNames);
            }
            for (String name : otherNames) {
                if (publicNames.contains(name)) {
                    tell(unit, "a method with the name of a public one: " + name);
                }
            }
            if (classes > MOST_CLASSES) {
                tell(unit, classes + " classes");
            }
        }

        // ---- rules 3, 4, 6, 10: what a method may use

        @Override
        public Void visitMethodInvocation(MethodInvocationTree t, Void v) {
            uses(t, element(t.getMethodSelect()));
            keepsConstants(t);
            return super.visitMethodInvocation(t, v);
        }

        @Override
        public Void visitNewClass(NewClassTree t, Void v) {
            Element e = here();
            TypeElement made = (TypeElement) e.getEnclosingElement();
            if (made.getQualifiedName().toString().startsWith("java.")) {
                if (!MADE.contains(made.getSimpleName().toString())) {
                    tell(t, "makes " + made);
                }
            } else if (inside != null) {
                uses(t, e);
            }
            if (inside != null && !inside.getName().contentEquals("<init>") && !MADE.contains(made.getSimpleName().toString())) {
                tell(t, "an object is made outside a constructor: " + made);
            }
            return super.visitNewClass(t, v);
        }

        /** What a call makes stays in the room for all calls to come. */
        @Override
        public Void visitNewArray(NewArrayTree t, Void v) {
            if (inside != null && !inside.getName().contentEquals("<init>")) {
                tell(t, "an array is made outside a constructor: " + t);
            }
            for (ExpressionTree length : t.getDimensions()) {
                if (!constant(length) && !allConstant(length)) {
                    tell(t, "a length that is no constant: " + t);
                }
            }
            return super.visitNewArray(t, v);
        }

        private boolean allConstant(ExpressionTree t) {
            if (t instanceof ParenthesizedTree) {
                return allConstant(((ParenthesizedTree) t).getExpression());
            }
            if (t instanceof BinaryTree) {
                return allConstant(((BinaryTree) t).getLeftOperand()) && allConstant(((BinaryTree) t).getRightOperand());
            }
            return constant(t);
        }

        // ---- rule 9: every loop has an end

        @Override
        public Void visitForLoop(ForLoopTree t, Void v) {
            if (t.getUpdate().isEmpty() || !beginsWithBound(t.getCondition())) {
                tell(t, "a loop without a step, or that begins with no bound: " + t.getCondition());
            }
            return super.visitForLoop(t, v);
        }

        @Override
        public Void visitWhileLoop(WhileLoopTree t, Void v) {
            if (!beginsWithBound(t.getCondition())) {
                tell(t, "a loop that begins with no bound: " + t.getCondition());
            }
            return super.visitWhileLoop(t, v);
        }

        @Override
        public Void visitDoWhileLoop(DoWhileLoopTree t, Void v) {
            tell(t, "do .. while is not used in this file");
            return super.visitDoWhileLoop(t, v);
        }

        /** A counter against a bound, neither of them asked of a method, ahead of all else. */
        private static boolean beginsWithBound(ExpressionTree t) {
            if (t instanceof ParenthesizedTree) {
                return beginsWithBound(((ParenthesizedTree) t).getExpression());
            }
            if (t != null && t.getKind() == Tree.Kind.CONDITIONAL_AND) {
                return beginsWithBound(((BinaryTree) t).getLeftOperand());
            }
            return t != null && t.toString().indexOf('(') < 0 && Set.of(Tree.Kind.LESS_THAN, Tree.Kind.LESS_THAN_EQUAL,
                Tree.Kind.GREATER_THAN, Tree.Kind.GREATER_THAN_EQUAL).contains(t.getKind());
        }

        // ---- rule 5: what is static stays as it is

        private void keepsConstants(MethodInvocationTree t) {
            String name = element(t.getMethodSelect()).getSimpleName().toString();
            int goal = name.equals("lay") || name.equals("fill") ? 0 : name.equals("copyOver") ? 1
                : name.equals("arraycopy") ? 2 : -1;
            if (goal < 0 || goal >= t.getArguments().size()) {
                return;
            }
            Element e = element(t.getArguments().get(goal));
            if (e != null && e.getModifiers().contains(Modifier.STATIC)) {
                tell(t, "changes a constant: " + t);
            }
        }

        private void uses(Tree t, Element e) {
            TypeElement owner = (TypeElement) e.getEnclosingElement();
            String of = owner.getQualifiedName().toString();
            if (of.startsWith("SunHouse")) {
                if (inside != null) {
                    Element self = trees.getElement(methodPath());
                    calls.computeIfAbsent(nameOf(self), k -> new LinkedHashSet<>()).add(nameOf(e));
                }
            } else if (!of.equals("java.lang.Object") && !LIBRARY.contains(of + "." + e.getSimpleName())) {
                tell(t, "calls " + of + "." + e);
            }
        }

        private TreePath methodPath() {
            TreePath p = getCurrentPath();
            while (p.getLeaf() != inside) {
                p = p.getParentPath();
            }
            return p;
        }

        @Override
        public Void visitMemberSelect(MemberSelectTree t, Void v) {
            Element e = here();
            if (e != null && e.getKind() == ElementKind.FIELD && e.getEnclosingElement() instanceof TypeElement) {
                String of = ((TypeElement) e.getEnclosingElement()).getQualifiedName().toString();
                if (of.startsWith("java.") && !LIBRARY.contains(of + "." + e.getSimpleName())) {
                    tell(t, "reads " + of + "." + e);
                }
            }
            return super.visitMemberSelect(t, v);
        }

        @Override
        public Void visitImport(ImportTree t, Void v) {
            if (!t.getQualifiedIdentifier().toString().equals("java.util.Arrays")) {
                tell(t, "imports " + t.getQualifiedIdentifier());
            }
            return null;
        }

        @Override
        public Void visitThrow(ThrowTree t, Void v) {
            ExecutableElement e = (ExecutableElement) trees.getElement(methodPath());
            if (!e.getModifiers().contains(Modifier.PUBLIC) || e.getThrownTypes().isEmpty()) {
                tell(t, "throws where the document does not");
            }
            return super.visitThrow(t, v);
        }

        @Override
        public Void visitArrayAccess(ArrayAccessTree t, Void v) {
            String name = inside == null ? "" : inside.getName().toString();
            if (name.equals("<init>")) {
                name = trees.getElement(methodPath()).getEnclosingElement().getSimpleName().toString();
            }
            if (!INDEXERS.contains(name)) {
                tell(t, "uses an index outside at and lay: " + t);
            }
            return super.visitArrayAccess(t, v);
        }

        @Override
        public Void visitBinary(BinaryTree t, Void v) {
            boolean divides = t.getKind() == Tree.Kind.DIVIDE || t.getKind() == Tree.Kind.REMAINDER;
            if (divides && !constant(t.getRightOperand()) && !testedForZero(t.getRightOperand())) {
                tell(t, "divides by what was not tested: " + t);
            }
            return super.visitBinary(t, v);
        }

        private boolean constant(ExpressionTree t) {
            if (t instanceof LiteralTree) {
                return true;
            }
            Element e = element(t);
            return e instanceof javax.lang.model.element.VariableElement
                && ((javax.lang.model.element.VariableElement) e).getConstantValue() != null;
        }

        private boolean testedForZero(ExpressionTree t) {
            return inside.getBody().toString().contains(t + " == 0");
        }

        @Override
        public Void visitVariable(VariableTree t, Void v) {
            TypeKind kind = trees.getTypeMirror(new TreePath(getCurrentPath(), t.getType())).getKind();
            if (kind == TypeKind.FLOAT || kind == TypeKind.DOUBLE) {
                tell(t, "a double is more than this file needs");
            }
            return super.visitVariable(t, v);
        }

        @Override
        public Void scan(Tree t, Void v) {
            if (t != null) {
                switch (t.getKind()) {
                    case LAMBDA_EXPRESSION: case MEMBER_REFERENCE: case TRY: case SYNCHRONIZED: case ASSERT:
                    case INSTANCE_OF: case STRING_LITERAL: case SWITCH: case SWITCH_EXPRESSION: case ANNOTATION:
                        boolean told = t.getKind() == Tree.Kind.STRING_LITERAL
                            && getCurrentPath().getLeaf() instanceof NewClassTree;
                        if (!told) {
                            tell(t, "not used in this file: " + t.getKind());
                        }
                        break;
                    default:
                        break;
                }
            }
            return super.scan(t, v);
        }

        // ---- rules 8, 11: how deep calls go

        void depths() {
            Map<String, Integer> known = new HashMap<>();
            for (String name : calls.keySet()) {
                int deep = depth(name, known, new LinkedHashSet<>());
                if (deep > MOST_DEEP) {
                    tell(methods.getOrDefault(name, unit), deep + " calls deep: " + name);
                }
            }
        }

        private int depth(String name, Map<String, Integer> known, Set<String> open) {
            if (known.containsKey(name)) {
                return known.get(name);
            }
            if (!open.add(name)) {
                tell(unit, "calls itself: " + open);
                return 0;
            }
            int deepest = 0;
            for (String called : calls.getOrDefault(name, Set.of())) {
                deepest = Math.max(deepest, depth(called, known, open));
            }
            open.remove(name);
            known.put(name, deepest + 1);
            return deepest + 1;
        }
    }
}
