import com.sun.source.tree.ArrayAccessTree;
import com.sun.source.tree.BinaryTree;
import com.sun.source.tree.ClassTree;
import com.sun.source.tree.CompilationUnitTree;
import com.sun.source.tree.CompoundAssignmentTree;
import com.sun.source.tree.ExpressionTree;
import com.sun.source.tree.ForLoopTree;
import com.sun.source.tree.LiteralTree;
import com.sun.source.tree.MethodInvocationTree;
import com.sun.source.tree.MethodTree;
import com.sun.source.tree.NewArrayTree;
import com.sun.source.tree.NewClassTree;
import com.sun.source.tree.Tree;
import com.sun.source.tree.TypeCastTree;
import com.sun.source.tree.VariableTree;
import com.sun.source.util.JavacTask;
import com.sun.source.util.SourcePositions;
import com.sun.source.util.TreePath;
import com.sun.source.util.TreePathScanner;
import com.sun.source.util.Trees;
import java.io.IOException;
import java.nio.file.Files;
import java.nio.file.Path;
import java.util.ArrayList;
import java.util.EnumSet;
import java.util.HashSet;
import java.util.LinkedHashMap;
import java.util.LinkedHashSet;
import java.util.List;
import java.util.Map;
import java.util.Set;
import javax.lang.model.element.Element;
import javax.lang.model.element.ElementKind;
import javax.lang.model.element.Modifier;
import javax.lang.model.element.VariableElement;
import javax.lang.model.type.TypeMirror;
import javax.tools.JavaCompiler;
import javax.tools.StandardJavaFileManager;
import javax.tools.ToolProvider;

/**
 * ../shared/LANGUAGE.md, rule by rule, as far as the compiler's tree of the source tells it. Where a
 * rule leaves more than the class needs, the test leaves but what it needs.
 */
public final class LanguageTest {
    private static final Check CHECK = new Check();
    private static final String OUTER = "SpoonVotes";
    private static final int MOST_LINES = 60, MOST_PARAMETERS = 7, MOST_CLASSES = 12, MOST_FIELDS = 20, DEEPEST = 8;

    /** Rules 2, 6 and 10: no tree of another kind, so no throw, try, lambda, while, instanceof, .. */
    private static final Set<Tree.Kind> KINDS = EnumSet.of(Tree.Kind.COMPILATION_UNIT, Tree.Kind.CLASS,
            Tree.Kind.METHOD, Tree.Kind.VARIABLE, Tree.Kind.MODIFIERS, Tree.Kind.BLOCK, Tree.Kind.IF,
            Tree.Kind.FOR_LOOP, Tree.Kind.SWITCH, Tree.Kind.CASE, Tree.Kind.BREAK, Tree.Kind.RETURN,
            Tree.Kind.EXPRESSION_STATEMENT, Tree.Kind.METHOD_INVOCATION, Tree.Kind.NEW_CLASS,
            Tree.Kind.NEW_ARRAY, Tree.Kind.PARENTHESIZED, Tree.Kind.CONDITIONAL_EXPRESSION,
            Tree.Kind.ASSIGNMENT, Tree.Kind.PLUS_ASSIGNMENT, Tree.Kind.MINUS_ASSIGNMENT,
            Tree.Kind.MULTIPLY_ASSIGNMENT, Tree.Kind.OR_ASSIGNMENT, Tree.Kind.POSTFIX_INCREMENT,
            Tree.Kind.POSTFIX_DECREMENT, Tree.Kind.LOGICAL_COMPLEMENT, Tree.Kind.UNARY_MINUS,
            Tree.Kind.CONDITIONAL_AND, Tree.Kind.CONDITIONAL_OR, Tree.Kind.AND, Tree.Kind.OR,
            Tree.Kind.LEFT_SHIFT, Tree.Kind.RIGHT_SHIFT, Tree.Kind.PLUS, Tree.Kind.MINUS,
            Tree.Kind.MULTIPLY, Tree.Kind.DIVIDE, Tree.Kind.REMAINDER, Tree.Kind.EQUAL_TO,
            Tree.Kind.NOT_EQUAL_TO, Tree.Kind.LESS_THAN, Tree.Kind.LESS_THAN_EQUAL,
            Tree.Kind.GREATER_THAN, Tree.Kind.GREATER_THAN_EQUAL, Tree.Kind.TYPE_CAST,
            Tree.Kind.ARRAY_ACCESS, Tree.Kind.ARRAY_TYPE, Tree.Kind.PRIMITIVE_TYPE, Tree.Kind.IDENTIFIER,
            Tree.Kind.MEMBER_SELECT, Tree.Kind.INT_LITERAL, Tree.Kind.LONG_LITERAL, Tree.Kind.CHAR_LITERAL,
            Tree.Kind.STRING_LITERAL, Tree.Kind.BOOLEAN_LITERAL);

    /** Rule 3, besides the classes inside. */
    private static final Set<String> TYPES = Set.of("int", "long", "char", "boolean", "java.lang.String",
            "void", "int[]", "char[]");

    /** Rules 4 and 13: none that tells of a clock, of chance, of files or of what is beside the class. */
    private static final Set<String> LIBRARY = Set.of("java.lang.Math.min(int,int)",
            "java.lang.Math.max(int,int)", "java.lang.Integer.bitCount(int)", "java.lang.String.length()",
            "java.lang.String.charAt(int)",
            "java.lang.System.arraycopy(java.lang.Object,int,java.lang.Object,int,int)");

    private final Trees trees;
    private final SourcePositions positions;
    private final CompilationUnitTree unit;
    /** Rule 8: who calls whom, by class, name and parameters. */
    private final Map<String, Set<String>> calls = new LinkedHashMap<>();

    private LanguageTest(Trees trees, CompilationUnitTree unit) {
        this.trees = trees;
        this.positions = trees.getSourcePositions();
        this.unit = unit;
    }

    public static void main(String[] args) throws IOException {
        Path source = Path.of(args.length == 0 ? "src/main/java/SpoonVotes.java" : args[0]);
        CHECK.isTrue("signs 1 to 127", Files.readString(source).chars().allMatch(s -> s >= 1 && s <= 127));
        JavaCompiler compiler = ToolProvider.getSystemJavaCompiler();
        try (StandardJavaFileManager files = compiler.getStandardFileManager(null, null, null)) {
            JavacTask task = (JavacTask) compiler.getTask(null, files, null, List.of("-proc:none"), null,
                    files.getJavaFileObjects(source));
            CompilationUnitTree unit = task.parse().iterator().next();
            task.analyze();
            new LanguageTest(Trees.instance(task), unit).rules();
        }
        CHECK.finish("language");
    }

    private void rules() {
        CHECK.isTrue("no package, no import", unit.getPackageName() == null && unit.getImports().isEmpty());
        CHECK.due("classes in the file that are in none", unit.getTypeDecls().size(), 1);
        Walk walk = new Walk();
        walk.scan(unit, null);
        CHECK.isTrue("some of all is found: " + walk.classes + " classes, " + walk.loops + " loops, "
                + calls.size() + " methods", walk.classes > 1 && walk.loops > 10 && calls.size() > 60);
        CHECK.isTrue("rule 11: twelve classes at most", walk.classes <= MOST_CLASSES);
        for (String method : calls.keySet()) {
            int deep = depth(method, new ArrayList<>());
            CHECK.isTrue("rule 11: calls " + deep + " deep: " + method, deep <= DEEPEST);
        }
    }

    /** How many calls stand open at most from this one on; a method that calls itself is told. */
    private int depth(String method, List<String> open) {
        CHECK.isTrue("rule 8: " + open + " calls " + method + " again", !open.contains(method));
        if (open.contains(method)) return 0;
        open.add(method);
        int deepest = 0;
        for (String called : calls.getOrDefault(method, Set.of())) {
            deepest = Math.max(deepest, depth(called, open));
        }
        open.remove(open.size() - 1);
        return deepest + 1;
    }

    private static String nameOf(Element method) {
        return method.getEnclosingElement() + "." + method;
    }

    private static boolean isOfTheFile(Element of) {
        String name = of.getEnclosingElement().toString();
        return name.equals(OUTER) || name.startsWith(OUTER + ".");
    }

    private final class Walk extends TreePathScanner<Void, Void> {
        int classes, loops;
        private final Set<String> face = new HashSet<>();

        @Override public Void scan(Tree tree, Void none) {
            if (tree != null) {
                CHECK.isTrue(at(tree) + "no tree of kind " + tree.getKind(), KINDS.contains(tree.getKind()));
            }
            return super.scan(tree, none);
        }

        private String at(Tree tree) {
            return "line " + line(positions.getStartPosition(unit, tree)) + ": ";
        }

        private long line(long position) {
            return position < 0 ? 0 : unit.getLineMap().getLineNumber(position);
        }

        private Element element(Tree tree) {
            return trees.getElement(new TreePath(getCurrentPath(), tree));
        }

        private Element elementHere() {
            return trees.getElement(getCurrentPath());
        }

        private TypeMirror type(Tree tree) {
            return trees.getTypeMirror(new TreePath(getCurrentPath(), tree));
        }

        private void isOfTheLanguage(Tree tree, TypeMirror type) {
            String name = type.toString();
            String ofOne = name.endsWith("[]") ? name.substring(0, name.length() - 2) : name;
            CHECK.isTrue(at(tree) + "rule 3: type " + name, TYPES.contains(name) || ofOne.startsWith(OUTER + "."));
        }

        /** Rules 1, 2, 5 and 11, of a class. */
        @Override public Void visitClass(ClassTree tree, Void none) {
            classes++;
            Element element = elementHere();
            Set<Modifier> modifiers = element.getModifiers();
            boolean isOuter = element.getSimpleName().contentEquals(OUTER);
            Element around = element.getEnclosingElement();
            if (isOuter) {
                CHECK.isTrue("rule 1: public and final", modifiers.equals(EnumSet.of(Modifier.PUBLIC, Modifier.FINAL)));
                for (Element member : element.getEnclosedElements()) {
                    if (member.getModifiers().contains(Modifier.PUBLIC)) face.add(member.getSimpleName().toString());
                }
            } else {
                CHECK.isTrue(at(tree) + "rule 2: static, private and right inside", modifiers.contains(Modifier.STATIC)
                        && modifiers.contains(Modifier.PRIVATE) && around.toString().equals(OUTER));
            }
            int fields = 0;
            for (Element member : element.getEnclosedElements()) {
                boolean isStatic = member.getModifiers().contains(Modifier.STATIC);
                if (member.getKind() == ElementKind.FIELD && !isStatic) fields++;
            }
            for (Tree member : tree.getMembers()) {
                CHECK.isTrue(at(member) + "rule 5: no block of its own", member.getKind() != Tree.Kind.BLOCK);
            }
            CHECK.isTrue(at(tree) + "rule 11: twenty fields at most", fields <= MOST_FIELDS);
            return super.visitClass(tree, none);
        }

        /** Rules 1, 3 and 11, of a method. */
        @Override public Void visitMethod(MethodTree tree, Void none) {
            Element element = elementHere();
            String name = nameOf(element);
            calls.putIfAbsent(name, new LinkedHashSet<>());
            boolean isOfTheFace = element.getModifiers().contains(Modifier.PUBLIC);
            CHECK.isTrue(name + ": rule 1: a name of its own", element.getKind() == ElementKind.CONSTRUCTOR
                    || isOfTheFace || !face.contains(element.getSimpleName().toString()));
            CHECK.isTrue(name + ": rule 1: public in the outer class alone, and private else", isOfTheFace
                    ? element.getEnclosingElement().toString().equals(OUTER)
                    : element.getModifiers().contains(Modifier.PRIVATE) || !element.getEnclosingElement().toString().equals(OUTER));
            CHECK.isTrue(name + ": rule 11: seven parameters at most", tree.getParameters().size() <= MOST_PARAMETERS);
            long lines = line(positions.getEndPosition(unit, tree)) - line(positions.getStartPosition(unit, tree)) + 1;
            CHECK.isTrue(name + ": rule 11: sixty lines at most, not " + lines, lines <= MOST_LINES);
            CHECK.isTrue(name + ": rule 6: throws nothing", tree.getThrows().isEmpty());
            CHECK.isTrue(name + ": has a body", tree.getBody() != null);
            if (tree.getReturnType() != null) isOfTheLanguage(tree, type(tree.getReturnType()));
            return super.visitMethod(tree, none);
        }

        /** Rules 3 and 5, of a field or a variable. */
        @Override public Void visitVariable(VariableTree tree, Void none) {
            Element element = elementHere();
            isOfTheLanguage(tree, element.asType());
            if (element.getModifiers().contains(Modifier.STATIC)) {
                CHECK.isTrue(at(tree) + "rule 5: a constant", element.getModifiers().contains(Modifier.FINAL)
                        && ((VariableElement) element).getConstantValue() != null);
            } else if (element.getKind() == ElementKind.FIELD && element.getEnclosingElement().toString().equals(OUTER)) {
                CHECK.isTrue(at(tree) + "rule 1: private", element.getModifiers().contains(Modifier.PRIVATE));
            }
            return super.visitVariable(tree, none);
        }

        /** Rules 4 and 8, of a call. */
        @Override public Void visitMethodInvocation(MethodInvocationTree tree, Void none) {
            Element called = elementHere();
            if (isOfTheFile(called)) {
                calls.computeIfAbsent(around(), name -> new LinkedHashSet<>()).add(nameOf(called));
            } else if (called.getKind() != ElementKind.CONSTRUCTOR) {
                CHECK.isTrue(at(tree) + "rule 4: " + nameOf(called), LIBRARY.contains(nameOf(called)));
            }
            return super.visitMethodInvocation(tree, none);
        }

        /** The method that it stands in; of a field's initialiser, nothing. */
        private String around() {
            TreePath path = getCurrentPath();
            while (path != null && path.getLeaf().getKind() != Tree.Kind.METHOD) path = path.getParentPath();
            return path == null ? "" : nameOf(trees.getElement(path));
        }

        /** Rule 12: objects and arrays are made as a field is, or in a constructor. */
        private void isMadeAtFirst(Tree tree) {
            CHECK.isTrue(at(tree) + "rule 12: made behind the constructor", around().isEmpty() || around().contains("<init>")
                    || around().matches(".*\\.(\\w+)\\.\\1\\(.*\\)"));
        }

        @Override public Void visitNewClass(NewClassTree tree, Void none) {
            isMadeAtFirst(tree);
            CHECK.isTrue(at(tree) + "rule 2: no class without a name", tree.getClassBody() == null);
            Element constructor = elementHere();
            CHECK.isTrue(at(tree) + "rule 3: made of the file's classes", isOfTheFile(constructor));
            calls.computeIfAbsent(around(), name -> new LinkedHashSet<>()).add(nameOf(constructor));
            return super.visitNewClass(tree, none);
        }

        @Override public Void visitNewArray(NewArrayTree tree, Void none) {
            isMadeAtFirst(tree);
            CHECK.due(at(tree) + "rule 3: dimensions", tree.getDimensions().size(), 1);
            for (ExpressionTree length : tree.getDimensions()) {
                CHECK.isTrue(at(tree) + "rule 7: a length above 0: " + length, isAbove0(length)
                        || length.toString().matches("Math\\.max\\(\\w+, 1\\)"));
            }
            return super.visitNewArray(tree, none);
        }

        private boolean isAbove0(ExpressionTree number) {
            if (number instanceof LiteralTree literal) return literal.getValue() instanceof Integer n && n > 0;
            return element(number) instanceof VariableElement constant
                    && constant.getConstantValue() instanceof Integer n && n > 0;
        }

        /** Rule 7: what divides is a number above 0, or is told not to be 0 in the same method. */
        private void isNo0(Tree tree, ExpressionTree divisor) {
            CHECK.isTrue(at(tree) + "rule 7: divided by " + divisor,
                    isAbove0(divisor) || isHeldAgainst0(divisor.toString()));
        }

        private boolean isHeldAgainst0(String divisor) {
            TreePath path = getCurrentPath();
            while (path.getLeaf().getKind() != Tree.Kind.METHOD) path = path.getParentPath();
            String method = path.getLeaf().toString();
            return method.contains(divisor + " != 0") || method.contains("if (" + divisor + " == 0) {");
        }

        /** Rules 4, 6 and 7, of what stands between two. */
        @Override public Void visitBinary(BinaryTree tree, Void none) {
            if (tree.getKind() == Tree.Kind.DIVIDE || tree.getKind() == Tree.Kind.REMAINDER) {
                isNo0(tree, tree.getRightOperand());
            }
            CHECK.isTrue(at(tree) + "rules 6 and 10: of numbers alone: " + tree, type(tree.getLeftOperand()).getKind().isPrimitive()
                    && type(tree.getRightOperand()).getKind().isPrimitive());
            return super.visitBinary(tree, none);
        }

        @Override public Void visitCompoundAssignment(CompoundAssignmentTree tree, Void none) {
            CHECK.isTrue(at(tree) + "rule 10: of numbers alone: " + tree, type(tree.getVariable()).getKind().isPrimitive());
            return super.visitCompoundAssignment(tree, none);
        }

        /** Rule 6: a cast between numbers needs no test ahead of it. */
        @Override public Void visitTypeCast(TypeCastTree tree, Void none) {
            CHECK.isTrue(at(tree) + "rule 6: " + tree, type(tree.getType()).getKind().isPrimitive()
                    && type(tree.getExpression()).getKind().isPrimitive());
            return super.visitTypeCast(tree, none);
        }

        /** Rule 9: a counter goes up by one against a bound, and nothing else is done to it. */
        @Override public Void visitForLoop(ForLoopTree tree, Void none) {
            loops++;
            boolean isCounted = tree.getInitializer().size() == 1 && tree.getUpdate().size() == 1
                    && tree.getInitializer().get(0) instanceof VariableTree;
            CHECK.isTrue(at(tree) + "rule 9: one counter", isCounted);
            if (isCounted) {
                String counter = ((VariableTree) tree.getInitializer().get(0)).getName().toString();
                CHECK.isTrue(at(tree) + "rule 9: it goes up", tree.getUpdate().get(0).toString().equals(counter + "++;"));
                CHECK.isTrue(at(tree) + "rule 9: it has a bound: " + tree.getCondition(),
                        tree.getCondition().toString().matches("(\\w+\\.\\w+ \\+ )?" + counter + " <=? .*"));
                CHECK.isTrue(at(tree) + "rule 9: it is left alone", !tree.getStatement().toString()
                        .matches("(?s).*\\b" + counter + "( [-+*/%|&]?= |\\+\\+|--).*"));
            }
            return super.visitForLoop(tree, none);
        }

        /** Rule 7: an index is a counter or a number that is tested, never one that is reckoned in its place. */
        @Override public Void visitArrayAccess(ArrayAccessTree tree, Void none) {
            String index = tree.getIndex().toString();
            CHECK.isTrue(at(tree) + "rule 7: an index with a name: " + index, index.matches("\\w+( - 1)?"));
            return super.visitArrayAccess(tree, none);
        }
    }
}
