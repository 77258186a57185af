import com.sun.source.tree.*;
import com.sun.source.util.JavacTask;
import com.sun.source.util.TreePathScanner;
import com.sun.source.util.TreeScanner;
import com.sun.source.util.Trees;
import java.nio.file.Path;
import java.util.*;
import javax.lang.model.element.Modifier;
import javax.tools.JavaCompiler;
import javax.tools.StandardJavaFileManager;
import javax.tools.ToolProvider;

/** The rules of LANGUAGE.md that can be seen in the syntax of src/main/java/ObjectCore.java. */
public final class LanguageTest {
    private static final Set<String> FACE = Set.of("code", "add", "make", "define", "accessor", "seal", "call",
            "get", "put", "remove", "result", "own", "each", "of", "state", "clear");
    private static final Set<String> CONSTANTS = Set.of("RETURNED", "THROWN", "LONG", "REFUSED", "FULL");
    private static final Set<Tree.Kind> FORBIDDEN = EnumSet.of(Tree.Kind.THROW, Tree.Kind.TRY,
            Tree.Kind.SYNCHRONIZED, Tree.Kind.ASSERT, Tree.Kind.INSTANCE_OF, Tree.Kind.LAMBDA_EXPRESSION,
            Tree.Kind.MEMBER_REFERENCE, Tree.Kind.NULL_LITERAL, Tree.Kind.STRING_LITERAL, Tree.Kind.FLOAT_LITERAL,
            Tree.Kind.DOUBLE_LITERAL, Tree.Kind.NEW_CLASS, Tree.Kind.WHILE_LOOP, Tree.Kind.DO_WHILE_LOOP,
            Tree.Kind.ENHANCED_FOR_LOOP, Tree.Kind.IMPORT, Tree.Kind.PACKAGE, Tree.Kind.MEMBER_SELECT,
            Tree.Kind.INTERFACE, Tree.Kind.ENUM, Tree.Kind.RECORD, Tree.Kind.ANNOTATION);
    private static final Set<String> TYPES = Set.of("int", "long", "short", "byte", "char", "boolean", "void");
    private static final Set<String> ARRAYS = Set.of("int[]", "long[]", "short[]", "byte[]", "char[]", "boolean[]");

    private static final Map<String, Set<String>> calls = new TreeMap<>();
    private static int wrong = 0;

    private static void rule(int number, boolean kept, String where) {
        if (!kept) {
            wrong++;
            System.out.println("rule " + number + ": " + where);
        }
    }

    public static void main(String[] args) throws Exception {
        Path source = Path.of(args.length > 0 ? args[0] : ".", "src/main/java/ObjectCore.java");
        JavaCompiler compiler = ToolProvider.getSystemJavaCompiler();
        try (StandardJavaFileManager files = compiler.getStandardFileManager(null, null, null)) {
            JavacTask task = (JavacTask) compiler.getTask(null, files, null, List.of("-proc:none"), null,
                    files.getJavaFileObjects(source));
            CompilationUnitTree unit = task.parse().iterator().next();
            look(unit, Trees.instance(task));
        }
        System.out.println("LanguageTest: " + calls.size() + " methods, " + wrong + " rules broken");
        if (wrong != 0) {
            System.exit(1);
        }
    }

    private static void look(CompilationUnitTree unit, Trees trees) {
        rule(1, unit.getTypeDecls().size() == 1, "one class");
        ClassTree type = (ClassTree) unit.getTypeDecls().get(0);
        rule(1, type.getModifiers().getFlags().equals(EnumSet.of(Modifier.PUBLIC, Modifier.FINAL)), "public, final");
        int fields = 0;
        for (Tree member : type.getMembers()) {
            if (member instanceof VariableTree) {
                fields += field((VariableTree) member) ? 1 : 0;
            } else if (member instanceof MethodTree) {
                method((MethodTree) member, unit, trees);
            } else {
                rule(1, false, "a member that is neither field nor method: " + member.getKind());
            }
        }
        rule(10, fields <= 40, fields + " fields");
        everywhere(unit);
        for (String method : calls.keySet()) {
            int depth = depth(method, new ArrayDeque<>());
            rule(10, depth <= 6, method + " goes " + depth + " deep");
        }
    }

    private static boolean field(VariableTree field) {
        Set<Modifier> flags = field.getModifiers().getFlags();
        String name = field.getName().toString();
        rule(1, flags.contains(Modifier.PUBLIC) == CONSTANTS.contains(name), "public: " + name);
        rule(1, flags.contains(Modifier.PUBLIC) || flags.contains(Modifier.PRIVATE), "private: " + name);
        String type = field.getType().toString();
        rule(2, TYPES.contains(type) || ARRAYS.contains(type), "type of " + name);
        if (flags.contains(Modifier.STATIC)) {
            rule(5, flags.contains(Modifier.FINAL) && (type.equals("int") || type.equals("long")), "static " + name);
            return false;
        }
        if (ARRAYS.contains(type)) {
            rule(4, flags.contains(Modifier.FINAL) && field.getInitializer() instanceof NewArrayTree, "array " + name);
        }
        return true;
    }

    private static void method(MethodTree method, CompilationUnitTree unit, Trees trees) {
        String name = method.getName().toString();
        boolean isPublic = method.getModifiers().getFlags().contains(Modifier.PUBLIC);
        boolean isPrivate = method.getModifiers().getFlags().contains(Modifier.PRIVATE);
        rule(1, isPublic == (FACE.contains(name) || name.equals("<init>")), "public: " + name);
        rule(1, isPublic || isPrivate, "private: " + name);
        rule(1, calls.put(name, new TreeSet<>()) == null, "two methods of the name " + name);
        rule(10, method.getParameters().size() <= 7, "parameters of " + name);
        rule(4, name.equals("<init>") || TYPES.contains(method.getReturnType().toString()), "what " + name + " answers");
        for (VariableTree parameter : method.getParameters()) {
            String type = parameter.getType().toString();
            rule(2, TYPES.contains(type) || isPrivate && ARRAYS.contains(type), "parameter of " + name + ": " + type);
        }
        long start = trees.getSourcePositions().getStartPosition(unit, method);
        long end = trees.getSourcePositions().getEndPosition(unit, method);
        long lines = unit.getLineMap().getLineNumber(end) - unit.getLineMap().getLineNumber(start) + 1;
        rule(10, lines <= 60, name + " has " + lines + " lines");
        new TreeScanner<Void, Boolean>() {
            @Override
            public Void visitMethodInvocation(MethodInvocationTree call, Boolean inside) {
                rule(10, !inside, "a call inside arguments: " + call);
                rule(3, call.getMethodSelect() instanceof IdentifierTree, "a call of another class: " + call);
                calls.get(name).add(call.getMethodSelect().toString());
                return scan(call.getArguments(), true);
            }

            @Override
            public Void visitNewArray(NewArrayTree made, Boolean inside) {
                rule(4, false, name + " makes an array");
                return null;
            }

            @Override
            public Void visitVariable(VariableTree variable, Boolean inside) {
                rule(2, TYPES.contains(variable.getType().toString()), "type of " + variable);
                return super.visitVariable(variable, inside);
            }

            @Override
            public Void visitForLoop(ForLoopTree loop, Boolean inside) {
                rule(8, loop.getCondition() != null && loop.getUpdate().size() == 1, "a loop's end in " + name);
                return super.visitForLoop(loop, inside);
            }
        }.scan(method.getBody(), false);
    }

    private static void everywhere(CompilationUnitTree unit) {
        new TreePathScanner<Void, Void>() {
            @Override
            public Void scan(Tree tree, Void nothing) {
                if (tree != null) {
                    rule(6, !FORBIDDEN.contains(tree.getKind()), tree.getKind() + ": " + tree);
                }
                return super.scan(tree, nothing);
            }

            @Override
            public Void visitTypeCast(TypeCastTree cast, Void nothing) {
                rule(6, TYPES.contains(cast.getType().toString()), cast.toString());
                return super.visitTypeCast(cast, nothing);
            }

            @Override
            public Void visitNewArray(NewArrayTree made, Void nothing) {
                boolean plain = made.getInitializers() == null && made.getDimensions().size() == 1;
                rule(4, plain && made.getDimensions().get(0) instanceof IdentifierTree, made.toString());
                return super.visitNewArray(made, nothing);
            }
        }.scan(unit, null);
    }

    private static int depth(String method, Deque<String> around) {
        if (around.contains(method)) {
            rule(8, false, "recursion through " + method);
            return 0;
        }
        around.push(method);
        int deepest = 0;
        for (String called : calls.getOrDefault(method, Set.of())) {
            deepest = Math.max(deepest, depth(called, around));
        }
        around.pop();
        return deepest + 1;
    }
}
