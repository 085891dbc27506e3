import com.sun.source.tree.ArrayTypeTree;
import com.sun.source.tree.BinaryTree;
import com.sun.source.tree.BlockTree;
import com.sun.source.tree.ClassTree;
import com.sun.source.tree.CompilationUnitTree;
import com.sun.source.tree.ExpressionTree;
import com.sun.source.tree.ForLoopTree;
import com.sun.source.tree.IdentifierTree;
import com.sun.source.tree.LineMap;
import com.sun.source.tree.LiteralTree;
import com.sun.source.tree.MemberSelectTree;
import com.sun.source.tree.MethodInvocationTree;
import com.sun.source.tree.MethodTree;
import com.sun.source.tree.NewArrayTree;
import com.sun.source.tree.NewClassTree;
import com.sun.source.tree.ThrowTree;
import com.sun.source.tree.Tree;
import com.sun.source.tree.Tree.Kind;
import com.sun.source.tree.UnaryTree;
import com.sun.source.tree.VariableTree;
import com.sun.source.util.JavacTask;
import com.sun.source.util.SourcePositions;
import com.sun.source.util.TreeScanner;
import com.sun.source.util.Trees;
import java.io.IOException;
import java.nio.file.Path;
import java.util.ArrayList;
import java.util.HashMap;
import java.util.HashSet;
import java.util.List;
import java.util.Map;
import java.util.Set;
import java.util.TreeSet;
import javax.lang.model.element.Modifier;
import javax.tools.JavaCompiler;
import javax.tools.StandardJavaFileManager;
import javax.tools.ToolProvider;

/**
 * The rules of ../shared/LANGUAGE.md that can be read off the source. What the class does not use is not allowed here,
 * even where the rules would allow it: a line that uses more of Java is looked up in the rules first, then added.
 */
public final class LanguageTest extends TreeScanner<Void, Void> {
    private static final Path SOURCE = Path.of("src/main/java/PromiseClocks.java");

    private static final Set<Kind> UNUSED = Set.of(Kind.LAMBDA_EXPRESSION, Kind.MEMBER_REFERENCE, Kind.TRY,
        Kind.SYNCHRONIZED, Kind.ASSERT, Kind.SWITCH, Kind.SWITCH_EXPRESSION, Kind.INSTANCE_OF, Kind.TYPE_CAST,
        Kind.WHILE_LOOP, Kind.DO_WHILE_LOOP, Kind.ANNOTATION, Kind.IMPORT, Kind.PACKAGE, Kind.PARAMETERIZED_TYPE,
        Kind.INTERFACE, Kind.ENUM, Kind.RECORD, Kind.DIVIDE_ASSIGNMENT, Kind.REMAINDER_ASSIGNMENT);
    private static final Set<String> EXCEPTIONS =
        Set.of("IndexOutOfBoundsException", "IllegalArgumentException", "IllegalStateException");
    private static final Set<String> LIBRARY = Set.of("Math.min", "Math.max", "Integer.bitCount");
    private static final Set<String> STATIC_TYPES = Set.of("int", "long", "boolean", "char", "String");
    private static final int MOST_PARAMETERS = 7, MOST_LINES = 60, MOST_DEEP = 8, MOST_CLASSES = 12, MOST_FIELDS = 20;

    private final CompilationUnitTree unit;
    private final SourcePositions positions;
    private final Set<String> found = new TreeSet<>();
    private final List<ClassTree> classes = new ArrayList<>();
    private final Set<String> names = new HashSet<>();
    private final Map<String, Set<String>> callsOf = new HashMap<>();
    private MethodTree inside = null;

    private LanguageTest(CompilationUnitTree unit, SourcePositions positions) {
        this.unit = unit;
        this.positions = positions;
    }

    public static void main(String[] args) throws IOException {
        JavaCompiler compiler = ToolProvider.getSystemJavaCompiler();
        try (StandardJavaFileManager files = compiler.getStandardFileManager(null, null, null)) {
            JavacTask task = (JavacTask) compiler.getTask(null, files, null, null, null,
                files.getJavaFileObjects(args.length > 0 ? Path.of(args[0]) : SOURCE));
            CompilationUnitTree unit = task.parse().iterator().next();
            LanguageTest test = new LanguageTest(unit, Trees.instance(task).getSourcePositions());
            test.lookAtAll();
            for (String fault : test.found) {
                Due.answer(fault, "kept", () -> "broken");
            }
        }
        Due.end();
    }

    private void lookAtAll() {
        expect(1, unit.getTypeDecls().size() == 1, unit, "one class in the file");
        new TreeScanner<Void, Void>() {
            @Override
            public Void visitClass(ClassTree seen, Void v) {
                classes.add(seen);
                names.add(seen.getSimpleName().toString());
                return super.visitClass(seen, v);
            }
        }.scan(unit, null);
        scan(unit, null);
        expect(11, classes.size() <= MOST_CLASSES, unit, "too many classes");
        for (String method : callsOf.keySet()) {
            expect(11, depth(method, 0) <= MOST_DEEP, unit, "too deep, or calls itself: " + method);
        }
    }

    private void expect(int rule, boolean holds, Tree where, String what) {
        if (!holds) {
            LineMap lines = unit.getLineMap();
            long line = lines.getLineNumber(Math.max(0, positions.getStartPosition(unit, where)));
            found.add("rule " + rule + ", line " + line + ": " + what);
        }
    }

    /** How many calls are open at once, this one included; a call that calls itself is deeper than any limit. */
    private int depth(String method, int open) {
        int deepest = 0;
        if (open <= MOST_DEEP) {
            for (String called : callsOf.getOrDefault(method, Set.of())) {
                deepest = Math.max(deepest, depth(called, open + 1));
            }
        }
        return deepest + 1;
    }

    @Override
    public Void scan(Tree tree, Void v) {
        if (tree != null) {
            expect(10, !UNUSED.contains(tree.getKind()), tree, "not used until now: " + tree.getKind());
        }
        return super.scan(tree, v);
    }

    // ---- rules 1, 2, 5 and 11: classes, members and their sizes

    @Override
    public Void visitClass(ClassTree seen, Void v) {
        Set<Modifier> modifiers = seen.getModifiers().getFlags();
        boolean face = seen == classes.get(0);
        Set<Modifier> due = face ? Set.of(Modifier.PUBLIC, Modifier.FINAL)
            : Set.of(Modifier.PRIVATE, Modifier.STATIC, Modifier.FINAL);
        expect(face ? 1 : 2, modifiers.equals(due), seen, "modifiers of a class");
        Set<String> publicOnes = new HashSet<>();
        int fields = 0;
        for (Tree member : seen.getMembers()) {
            if (member instanceof MethodTree m && m.getModifiers().getFlags().contains(Modifier.PUBLIC)) {
                publicOnes.add(m.getName().toString());
            }
        }
        for (Tree member : seen.getMembers()) {
            expect(5, !(member instanceof BlockTree), member, "an initialiser block");
            if (member instanceof MethodTree m) {
                boolean shown = m.getModifiers().getFlags().contains(Modifier.PUBLIC);
                boolean hidden = m.getModifiers().getFlags().contains(Modifier.PRIVATE);
                expect(1, !face || shown || hidden, m, "neither public nor private");
                expect(1, !hidden || !publicOnes.contains(m.getName().toString()), m, "the name of a public one");
            } else if (member instanceof VariableTree field) {
                fields += lookAtField(field, face);
            }
        }
        expect(11, fields <= MOST_FIELDS, seen, "too many fields");
        return super.visitClass(seen, v);
    }

    /** Answers 1 for a field that each object has. */
    private int lookAtField(VariableTree field, boolean face) {
        Set<Modifier> modifiers = field.getModifiers().getFlags();
        if (modifiers.contains(Modifier.STATIC)) {
            boolean constant = modifiers.contains(Modifier.FINAL) && STATIC_TYPES.contains(field.getType().toString());
            expect(5, constant, field, "static, but not a constant");
            return 0;
        }
        expect(1, !face || modifiers.contains(Modifier.PRIVATE), field, "a field that is not private");
        return 1;
    }

    @Override
    public Void visitMethod(MethodTree seen, Void v) {
        inside = seen;
        String name = seen.getName().toString();
        LineMap lines = unit.getLineMap();
        long length = lines.getLineNumber(positions.getEndPosition(unit, seen))
            - lines.getLineNumber(positions.getStartPosition(unit, seen)) + 1;
        expect(11, length <= MOST_LINES, seen, "a long method");
        expect(11, seen.getParameters().size() <= MOST_PARAMETERS, seen, "many parameters");
        expect(6, !Set.of("equals", "hashCode", "toString").contains(name), seen, "a method of all objects");
        super.visitMethod(seen, v);
        inside = null;
        return null;
    }

    // ---- rules 3, 4 and 6: types, the library and exceptions

    @Override
    public Void visitVariable(VariableTree seen, Void v) {
        Tree type = seen.getType();
        Tree element = type instanceof ArrayTypeTree array ? array.getType() : type;
        boolean own = names.contains(element.toString());
        expect(3, own || Set.of("int", "boolean").contains(element.toString()), seen, "another type: " + type);
        return super.visitVariable(seen, v);
    }

    @Override
    public Void visitIdentifier(IdentifierTree seen, Void v) {
        String name = seen.getName().toString();
        boolean ofTheLibrary = Character.isUpperCase(name.charAt(0)) && !name.equals(name.toUpperCase());
        boolean known = names.contains(name) || EXCEPTIONS.contains(name) || Set.of("Math", "Integer").contains(name);
        expect(4, !ofTheLibrary || known, seen, "of the library: " + name);
        return super.visitIdentifier(seen, v);
    }

    @Override
    public Void visitMemberSelect(MemberSelectTree seen, Void v) {
        String of = seen.getExpression().toString();
        boolean known = !Set.of("Math", "Integer").contains(of) || LIBRARY.contains(seen.toString());
        expect(4, known, seen, "of the library: " + seen);
        return super.visitMemberSelect(seen, v);
    }

    @Override
    public Void visitThrow(ThrowTree seen, Void v) {
        boolean plain = seen.getExpression() instanceof NewClassTree made
            && EXCEPTIONS.contains(made.getIdentifier().toString())
            && made.getArguments().stream().allMatch(LiteralTree.class::isInstance);
        expect(6, plain, seen, "thrown otherwise than by new E(\"a written text\")");
        expect(6, inside == null || inside.getReturnType() != null, seen, "thrown in a constructor");
        return super.visitThrow(seen, v);
    }

    // ---- rules 7 to 10: divisors, calls of calls, loops, texts

    @Override
    public Void visitBinary(BinaryTree seen, Void v) {
        ExpressionTree right = seen.getRightOperand();
        if (seen.getKind() == Kind.DIVIDE || seen.getKind() == Kind.REMAINDER) {
            expect(7, Set.of("DAY_HOURS", "WEEK_DAYS").contains(right.toString()), seen, "a divisor that may be 0");
        }
        boolean text = right.getKind() == Kind.STRING_LITERAL || seen.getLeftOperand().getKind() == Kind.STRING_LITERAL;
        expect(10, !text, seen, "a text joined or compared by an operator");
        return super.visitBinary(seen, v);
    }

    @Override
    public Void visitMethodInvocation(MethodInvocationTree seen, Void v) {
        String called = seen.getMethodSelect().toString();
        if (inside != null && !LIBRARY.contains(called)) {
            String name = called.substring(called.lastIndexOf('.') + 1);
            callsOf.computeIfAbsent(inside.getName().toString(), n -> new HashSet<>()).add(name);
        }
        return super.visitMethodInvocation(seen, v);
    }

    @Override
    public Void visitForLoop(ForLoopTree seen, Void v) {
        boolean bounded = seen.getCondition() instanceof BinaryTree test
            && Set.of(Kind.LESS_THAN, Kind.LESS_THAN_EQUAL).contains(test.getKind())
            && seen.getUpdate().size() == 1
            && seen.getUpdate().get(0).getExpression() instanceof UnaryTree counted
            && counted.getKind() == Kind.POSTFIX_INCREMENT
            && counted.getExpression().toString().equals(test.getLeftOperand().toString());
        expect(9, bounded, seen, "a loop whose end cannot be seen");
        return super.visitForLoop(seen, v);
    }

    // ---- rule 12: what is made, and where

    @Override
    public Void visitNewClass(NewClassTree seen, Void v) {
        boolean exception = EXCEPTIONS.contains(seen.getIdentifier().toString());
        expect(12, exception || isMadeInItsPlace(), seen, "an object made with each call");
        return super.visitNewClass(seen, v);
    }

    @Override
    public Void visitNewArray(NewArrayTree seen, Void v) {
        expect(12, isMadeInItsPlace(), seen, "an array made with each call");
        expect(7, seen.getDimensions().stream().allMatch(d -> d.toString().matches("[A-Z_]+")), seen, "a length");
        return super.visitNewArray(seen, v);
    }

    /** In a field's first value, in a constructor, or where a case is opened: that is refused beyond 40. */
    private boolean isMadeInItsPlace() {
        return inside == null || inside.getReturnType() == null || inside.getName().contentEquals("open");
    }
}
