import com.sun.source.tree.AssertTree;
import com.sun.source.tree.ClassTree;
import com.sun.source.tree.CompilationUnitTree;
import com.sun.source.tree.LambdaExpressionTree;
import com.sun.source.tree.MemberReferenceTree;
import com.sun.source.tree.MethodTree;
import com.sun.source.tree.NewClassTree;
import com.sun.source.tree.SynchronizedTree;
import com.sun.source.tree.ThrowTree;
import com.sun.source.tree.Tree;
import com.sun.source.tree.TryTree;
import com.sun.source.util.JavacTask;
import com.sun.source.util.TreeScanner;
import com.sun.source.util.Trees;
import java.io.File;
import java.lang.management.ManagementFactory;
import java.lang.reflect.Field;
import java.lang.reflect.Method;
import java.lang.reflect.Modifier;
import java.util.HashSet;
import java.util.List;
import java.util.Set;
import java.util.TreeSet;
import javax.tools.JavaCompiler;
import javax.tools.StandardJavaFileManager;
import javax.tools.ToolProvider;

/** The face of the document, the rules of LANGUAGE.md that a program can count, and the room that a run takes. */
public final class LanguageTest {
    private static final String SOURCE = "src/main/java/LiveIndex.java";
    private static final String[] FACE = {"feed 6", "add 1", "drop 1", "dropBy 1", "flush 0", "where 1", "told 2",
        "doc 3", "word 3", "set 2", "taken 1", "choice 1", "begin 0", "finish 0", "leave 0", "cheapest 1", "write 0",
        "commit 0", "crash 0", "query 0", "open 1", "shut 1", "found 3", "look 2", "both 3", "silence 2", "tells 4",
        "film 3", "count 1", "sheet 3", "cell 3", "copy 5"};
    private static final Due T = new Due("language");

    public static void main(String[] args) throws Exception {
        face();
        nested();
        source();
        room();
        T.end();
    }

    private static void rule(String name, boolean holds) {
        T.due(name, holds ? 1 : 0, 1);
    }

    private static void face() {
        Set<String> methods = new TreeSet<>();
        Set<String> publicNames = new HashSet<>();
        for (Method m : LiveIndex.class.getDeclaredMethods()) {
            if (Modifier.isPrivate(m.getModifiers())) continue;
            rule("1 public, not static: " + m, m.getModifiers() == Modifier.PUBLIC && m.getReturnType() == int.class);
            for (Class<?> type : m.getParameterTypes()) rule("1 ints only: " + m, type == int.class);
            methods.add(m.getName() + " " + m.getParameterCount());
            publicNames.add(m.getName());
        }
        rule("1 the methods of the face", methods.equals(new TreeSet<>(List.of(FACE))));
        Set<String> constants = new TreeSet<>();
        for (Field f : LiveIndex.class.getDeclaredFields()) {
            if (Modifier.isPrivate(f.getModifiers())) continue;
            rule("1 a constant: " + f, f.getModifiers() == (Modifier.PUBLIC | Modifier.STATIC | Modifier.FINAL));
            constants.add(f.getName());
        }
        rule("1 the constants of the face", constants.equals(Set.of("NONE", "BAD", "STATE", "FULL", "DEAR")));
        T.row("1 their values", new int[] {LiveIndex.NONE, LiveIndex.BAD, LiveIndex.STATE, LiveIndex.FULL, LiveIndex.DEAR},
            -1, -2, -3, -4, -6);
        rule("1 one constructor", LiveIndex.class.getDeclaredConstructors().length == 1
            && LiveIndex.class.getConstructors().length == 1);
        rule("1 public and final", LiveIndex.class.getModifiers() == (Modifier.PUBLIC | Modifier.FINAL));
        for (Class<?> c : withNested()) {
            for (Method m : c.getDeclaredMethods()) {
                boolean own = c == LiveIndex.class && Modifier.isPublic(m.getModifiers());
                rule("1 no other method has a name of the face: " + m, own || !publicNames.contains(m.getName()));
            }
        }
    }

    private static Set<Class<?>> withNested() {
        Set<Class<?>> classes = new HashSet<>(List.of(LiveIndex.class.getDeclaredClasses()));
        classes.add(LiveIndex.class);
        return classes;
    }

    private static void nested() {
        rule("11 at most twelve classes", withNested().size() <= 12);
        for (Class<?> c : withNested()) {
            if (c != LiveIndex.class) rule("2 static: " + c, Modifier.isStatic(c.getModifiers()));
            rule("2 none inside: " + c, c == LiveIndex.class || c.getDeclaredClasses().length == 0);
            int fields = 0;
            for (Field f : c.getDeclaredFields()) {
                boolean isStatic = Modifier.isStatic(f.getModifiers());
                rule("5 static fields are final: " + f, !isStatic || Modifier.isFinal(f.getModifiers()));
                fields += isStatic ? 0 : 1;
            }
            rule("11 some twenty fields: " + c, fields <= 20);
            for (Method m : c.getDeclaredMethods()) rule("11 parameters: " + m, m.getParameterCount() <= 7);
        }
    }

    private static void source() throws Exception {
        JavaCompiler compiler = ToolProvider.getSystemJavaCompiler();
        try (StandardJavaFileManager files = compiler.getStandardFileManager(null, null, null)) {
            JavacTask task = (JavacTask) compiler.getTask(null, files, null, null, null,
                files.getJavaFileObjects(new File(SOURCE)));
            for (CompilationUnitTree unit : task.parse()) {
                rule("no package, no import", unit.getPackageName() == null && unit.getImports().isEmpty());
                rule("one class in the file", unit.getTypeDecls().size() == 1);
                new Rules(unit, Trees.instance(task)).scan(unit, null);
            }
        }
    }

    private static final class Rules extends TreeScanner<Void, Void> {
        private final CompilationUnitTree unit;
        private final Trees trees;

        Rules(CompilationUnitTree unit, Trees trees) {
            this.unit = unit;
            this.trees = trees;
        }

        private long line(Tree tree, boolean end) {
            long at = end ? trees.getSourcePositions().getEndPosition(unit, tree)
                : trees.getSourcePositions().getStartPosition(unit, tree);
            return unit.getLineMap().getLineNumber(at);
        }

        private Void none(String rule, Tree tree) {
            rule(rule + " at line " + line(tree, false), false);
            return null;
        }

        @Override public Void visitThrow(ThrowTree t, Void v) { return none("6 throw", t); }
        @Override public Void visitTry(TryTree t, Void v) { return none("6 try", t); }
        @Override public Void visitSynchronized(SynchronizedTree t, Void v) { return none("6 synchronized", t); }
        @Override public Void visitAssert(AssertTree t, Void v) { return none("6 assert", t); }
        @Override public Void visitLambdaExpression(LambdaExpressionTree t, Void v) { return none("2 lambda", t); }
        @Override public Void visitMemberReference(MemberReferenceTree t, Void v) { return none("2 reference", t); }

        @Override public Void visitNewClass(NewClassTree t, Void v) {
            if (t.getClassBody() != null) none("2 anonymous class", t);
            return super.visitNewClass(t, v);
        }

        @Override public Void visitMethod(MethodTree t, Void v) {
            rule("11 short: " + t.getName(), line(t, true) - line(t, false) < 60);
            return super.visitMethod(t, v);
        }

        @Override public Void visitClass(ClassTree t, Void v) {
            for (Tree member : t.getMembers()) {
                if (member.getKind() == Tree.Kind.BLOCK) none("5 initialiser block", member);
            }
            return super.visitClass(t, v);
        }
    }

    /** A dear run: full documents, merges over and over from a commit, every query call on them. */
    private static void dearRun() {
        LiveIndex x = new LiveIndex();
        String[] letters = {"a b c d e f", "g h i j k l", "m n o p q r", "s t u v w x"};
        for (int key = 0; key < 32; key++) {
            Due.add(x, key, letters[key % 4]);
            if (key % 4 == 3) x.flush();
        }
        Due.ask(x, "a* or b* or not c*");
        x.write();
        x.commit();
        for (int i = 0; i < 40; i++) {
            x.begin();
            x.finish();
            x.begin();
            x.finish();
            x.open(0);
            x.film(0, 0, 0);
            x.tells(0, 0, 0, 1);
            x.both(0, 0, 1);
            x.crash();
        }
    }

    /** A field or an element takes 8 bytes at most, so a run of 512 calls that takes less than 4 MB has room to spare. */
    private static void room() {
        com.sun.management.ThreadMXBean threads =
            (com.sun.management.ThreadMXBean) ManagementFactory.getThreadMXBean();
        long thread = Thread.currentThread().getId();
        dearRun();
        long before = threads.getThreadAllocatedBytes(thread);
        dearRun();
        long taken = threads.getThreadAllocatedBytes(thread) - before;
        rule("12 a dear run takes " + taken + " bytes", taken < 4_000_000);
        before = threads.getThreadAllocatedBytes(thread);
        new LiveIndex();
        taken = threads.getThreadAllocatedBytes(thread) - before;
        rule("12 a new object takes " + taken + " bytes", taken < 40_000);
        if (System.getProperty("tell") != null) System.out.println(taken);
    }
}
