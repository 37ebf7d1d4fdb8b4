import com.sun.source.tree.ClassTree;
import com.sun.source.tree.CompilationUnitTree;
import com.sun.source.tree.ForLoopTree;
import com.sun.source.tree.ImportTree;
import com.sun.source.tree.MemberSelectTree;
import com.sun.source.tree.MethodInvocationTree;
import com.sun.source.tree.MethodTree;
import com.sun.source.tree.NewArrayTree;
import com.sun.source.tree.NewClassTree;
import com.sun.source.tree.Tree;
import com.sun.source.tree.VariableTree;
import com.sun.source.util.JavacTask;
import com.sun.source.util.TreeScanner;
import java.io.File;
import java.util.ArrayList;
import java.util.List;
import java.util.Map;
import java.util.Set;
import java.util.TreeMap;
import java.util.TreeSet;
import javax.lang.model.element.Modifier;
import javax.tools.JavaCompiler;
import javax.tools.StandardJavaFileManager;
import javax.tools.ToolProvider;

/** The rules of LANGUAGE.md that can be read off the source; its path is the first argument. */
public final class LanguageTest extends TreeScanner<Void, ClassTree> {
    private static final Set<String> FACE = Set.of("NONE", "<init>", "song", "about", "bar", "loop", "drop", "of", "beat",
        "played", "length", "stroke", "clear", "find", "found", "costs", "join", "meets", "best", "must", "night", "order", "mend");
    private static final Set<Tree.Kind> RULED_OUT = Set.of(Tree.Kind.THROW, Tree.Kind.TRY, Tree.Kind.CATCH,
        Tree.Kind.SYNCHRONIZED, Tree.Kind.ASSERT, Tree.Kind.LAMBDA_EXPRESSION, Tree.Kind.MEMBER_REFERENCE,
        // allowed where they end and are safe, but the program does without them
        Tree.Kind.WHILE_LOOP, Tree.Kind.DO_WHILE_LOOP, Tree.Kind.TYPE_CAST, Tree.Kind.INSTANCE_OF);
    private static final Set<String> TYPES = Set.of("int", "boolean", "int[]", "boolean[]", "void", "Song", "Song[]", "Strokes",
        "Joins", "Meeting", "Nights");
    private static final int DEEPEST = 8;
    private static final Set<String> LIBRARY = Set.of("Math.max", "Math.min", "Math.abs", "Math.floorDiv", "Arrays.fill");

    private final List<String> faults = new ArrayList<>();
    private final Set<String> publicNames = new TreeSet<>();
    private final CharSequence source;
    private final JavacTask task;
    private CompilationUnitTree unit;
    private int classes = 0;
    private int loops = 0;
    private String method = "";
    /** Which methods and makers each one calls; those of one name are taken for one. */
    private final Map<String, Set<String>> calls = new TreeMap<>();

    private LanguageTest(JavacTask task, CharSequence source) {
        this.task = task;
        this.source = source;
    }

    public static void main(String[] args) throws Exception {
        File file = new File(args.length > 0 ? args[0] : "src/main/java/MixDesk.java");
        JavaCompiler compiler = ToolProvider.getSystemJavaCompiler();
        try (StandardJavaFileManager manager = compiler.getStandardFileManager(null, null, null)) {
            var files = manager.getJavaFileObjects(file);
            JavacTask task = (JavacTask) compiler.getTask(null, manager, null, null, null, files);
            LanguageTest test = new LanguageTest(task, files.iterator().next().getCharContent(true));
            test.look(task.parse().iterator().next());
            test.end();
        }
    }

    private void look(CompilationUnitTree parsed) {
        unit = parsed;
        ask(unit.getPackageName() == null, "a package line");
        ask(unit.getTypeDecls().size() == 1, "more than one class in the file");
        for (ImportTree line : unit.getImports()) {
            ask(line.getQualifiedIdentifier().toString().equals("java.util.Arrays"), "import " + line);
        }
        for (int i = 0; i < source.length(); i++) {
            ask(source.charAt(i) < 128, "a sign above 127");
        }
        for (Tree type : unit.getTypeDecls()) {
            lookAtFace((ClassTree) type);
        }
        scan(unit.getTypeDecls(), null);
        ask(classes <= 12, "more than twelve classes");
        for (String name : calls.keySet()) {
            ask(deep(name, 1) <= DEEPEST, name + " calls more than " + DEEPEST + " deep, or itself");
        }
    }

    /** How many calls stand open at once behind this one; more than are allowed if it comes back to itself. */
    private int deep(String name, int open) {
        int deepest = open;
        if (open <= DEEPEST) {
            for (String called : calls.getOrDefault(name, Set.of())) {
                deepest = Math.max(deepest, deep(called, open + 1));
            }
        }
        return deepest;
    }

    private void lookAtFace(ClassTree type) {
        ask(type.getModifiers().getFlags().containsAll(Set.of(Modifier.PUBLIC, Modifier.FINAL)), "class not public final");
        for (Tree member : type.getMembers()) {
            if (member instanceof MethodTree method) {
                lookAtMember(method.getName().toString(), method.getModifiers().getFlags());
            } else if (member instanceof VariableTree field) {
                lookAtMember(field.getName().toString(), field.getModifiers().getFlags());
            } else if (member instanceof ClassTree inner) {
                ask(inner.getModifiers().getFlags().contains(Modifier.STATIC), "inner class " + inner.getSimpleName());
            } else {
                ask(false, "a member of kind " + member.getKind());
            }
        }
        ask(publicNames.equals(FACE), "the face is " + publicNames);
    }

    private void lookAtMember(String name, Set<Modifier> flags) {
        if (flags.contains(Modifier.PUBLIC)) {
            publicNames.add(name);
        } else {
            ask(flags.contains(Modifier.PRIVATE), name + " is neither public nor private");
        }
    }

    @Override
    public Void scan(Tree tree, ClassTree within) {
        if (tree != null) {
            ask(!RULED_OUT.contains(tree.getKind()), tree.getKind() + ": " + tree);
        }
        return super.scan(tree, within);
    }

    @Override
    public Void visitClass(ClassTree type, ClassTree within) {
        classes++;
        int fields = 0;
        for (Tree member : type.getMembers()) {
            if (member instanceof VariableTree field) {
                Set<Modifier> flags = field.getModifiers().getFlags();
                fields += flags.contains(Modifier.STATIC) ? 0 : 1;
                ask(!flags.contains(Modifier.STATIC) || flags.contains(Modifier.FINAL), field + " static, not final");
                ask(!flags.contains(Modifier.STATIC) || field.getType().toString().equals("int"), field + " static, no int");
            }
            ask(member.getKind() != Tree.Kind.BLOCK, type.getSimpleName() + " has an initialiser block");
        }
        ask(fields <= 20, type.getSimpleName() + " has " + fields + " fields");
        return super.visitClass(type, type);
    }

    @Override
    public Void visitMethod(MethodTree method, ClassTree within) {
        String name = method.getName().toString();
        Set<Modifier> flags = method.getModifiers().getFlags();
        ask(method.getParameters().size() <= 7, name + " has too many parameters");
        ask(lines(method) <= 60, name + " is too long");
        ask(flags.contains(Modifier.PUBLIC) || name.equals("<init>") || !FACE.contains(name), name + " bears a public name");
        ask(method.getReturnType() == null || TYPES.contains(method.getReturnType().toString()), name + " returns " + method.getReturnType());
        this.method = name.equals("<init>") ? "new " + within.getSimpleName() : name;
        calls.putIfAbsent(this.method, new TreeSet<>());
        Void done = super.visitMethod(method, within);
        this.method = "";
        return done;
    }

    @Override
    public Void visitVariable(VariableTree variable, ClassTree within) {
        ask(TYPES.contains(variable.getType().toString()), variable + " is of another type");
        return super.visitVariable(variable, within);
    }

    @Override
    public Void visitForLoop(ForLoopTree loop, ClassTree within) {
        ask(loop.getCondition() != null && loop.getUpdate().size() == 1, "a loop whose end can't be seen: " + loop);
        loops++;
        Void done = super.visitForLoop(loop, within);
        loops--;
        return done;
    }

    @Override
    public Void visitNewArray(NewArrayTree made, ClassTree within) {
        ask(loops == 0, "an array made in a loop: " + made);
        return super.visitNewArray(made, within);
    }

    @Override
    public Void visitNewClass(NewClassTree made, ClassTree within) {
        ask(made.getClassBody() == null, "a class without a name");
        ask(loops == 0, "an object made in a loop: " + made);
        if (!method.isEmpty()) {
            calls.get(method).add("new " + made.getIdentifier());
        }
        return super.visitNewClass(made, within);
    }

    @Override
    public Void visitMethodInvocation(MethodInvocationTree call, ClassTree within) {
        if (call.getMethodSelect() instanceof MemberSelectTree select
                && Character.isUpperCase(select.getExpression().toString().charAt(0))) {
            ask(LIBRARY.contains(select.toString()), "a call of " + select);
        }
        if (!method.isEmpty()) {
            String name = call.getMethodSelect().toString();
            calls.get(method).add(name.substring(name.lastIndexOf('.') + 1));
        }
        return super.visitMethodInvocation(call, within);
    }

    private long lines(Tree tree) {
        var positions = com.sun.source.util.Trees.instance(task).getSourcePositions();
        int from = (int) positions.getStartPosition(unit, tree);
        int to = (int) positions.getEndPosition(unit, tree);
        return source.subSequence(from, to).chars().filter(sign -> sign == '\n').count() + 1;
    }

    private void ask(boolean holds, String fault) {
        if (!holds) {
            faults.add(fault);
        }
    }

    private void end() {
        for (String fault : faults) {
            System.out.println("LANGUAGE.md: " + fault);
        }
        System.out.println(faults.size() + " faults against LANGUAGE.md");
        if (!faults.isEmpty()) {
            System.exit(1);
        }
    }
}
