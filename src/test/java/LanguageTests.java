import com.sun.source.tree.AssertTree;
import com.sun.source.tree.ClassTree;
import com.sun.source.tree.CompilationUnitTree;
import com.sun.source.tree.IdentifierTree;
import com.sun.source.tree.LambdaExpressionTree;
import com.sun.source.tree.MemberReferenceTree;
import com.sun.source.tree.MemberSelectTree;
import com.sun.source.tree.MethodInvocationTree;
import com.sun.source.tree.MethodTree;
import com.sun.source.tree.NewClassTree;
import com.sun.source.tree.SynchronizedTree;
import com.sun.source.tree.ThrowTree;
import com.sun.source.tree.Tree;
import com.sun.source.tree.TryTree;
import com.sun.source.tree.TypeCastTree;
import com.sun.source.tree.VariableTree;
import com.sun.source.tree.WhileLoopTree;
import com.sun.source.util.JavacTask;
import com.sun.source.util.SourcePositions;
import com.sun.source.util.TreeScanner;
import com.sun.source.util.Trees;
import java.lang.reflect.Constructor;
import java.lang.reflect.Field;
import java.lang.reflect.Method;
import java.lang.reflect.Modifier;
import java.nio.file.Path;
import java.util.ArrayList;
import java.util.HashMap;
import java.util.HashSet;
import java.util.List;
import java.util.Map;
import java.util.Set;
import java.util.TreeSet;
import javax.tools.JavaCompiler;
import javax.tools.StandardJavaFileManager;
import javax.tools.ToolProvider;

/** The rules of LANGUAGE.md that can be seen from the source or from the compiled class. */
public final class LanguageTests {
    private static final Checks CHECKS = new Checks("LanguageTests");
    private static final Set<String> FACE = new TreeSet<>(List.of(
        "effect/5", "set/3", "drop/0", "hand/2", "ofAxis/2", "ofEffect/2", "slots/1", "slot/1", "load/1", "unload/1",
        "play/1", "stop/1", "press/1", "free/1", "pass/1", "hello/0", "watch/1", "master/1", "part/2", "envelope/1",
        "force/2", "rate/1", "frame/1", "frames/0", "peak/3", "soLong/1", "quiet/1", "many/1"));
    private static final Set<String> CONSTANTS = Set.of("UNKNOWN", "OUTSIDE", "STATE", "FULL", "NONE");
    private static final Set<String> LIBRARY = Set.of("Math.abs", "Math.min", "Math.max", "Integer.bitCount");

    public static void main(String[] args) throws Exception {
        String file = args.length > 0 ? args[0] : "src/main/java/PushStick.java";
        face();
        source(Path.of(file));
        CHECKS.end();
    }

    private static void face() {
        Class<PushStick> c = PushStick.class;
        CHECKS.holds("public and final", Modifier.isPublic(c.getModifiers()) && Modifier.isFinal(c.getModifiers()));
        Set<String> seen = new TreeSet<>();
        Set<String> names = new HashSet<>();
        for (Method m : c.getDeclaredMethods()) {
            if (Modifier.isPublic(m.getModifiers())) {
                seen.add(m.getName() + "/" + m.getParameterCount());
                names.add(m.getName());
                CHECKS.holds(m.getName() + " answers int", m.getReturnType() == int.class);
            }
        }
        CHECKS.holds("the public methods are the document's: " + seen, seen.equals(FACE));
        for (Method m : c.getDeclaredMethods()) {
            boolean isPublic = Modifier.isPublic(m.getModifiers());
            CHECKS.holds(m.getName() + " is public or private", isPublic || Modifier.isPrivate(m.getModifiers()));
            CHECKS.holds(m.getName() + " has a name of its own", isPublic || !names.contains(m.getName()));
        }
        for (Field f : c.getDeclaredFields()) {
            boolean isConstant = CONSTANTS.contains(f.getName());
            int mods = f.getModifiers();
            CHECKS.holds(f.getName() + " is public just if it is the document's", Modifier.isPublic(mods) == isConstant);
            CHECKS.holds(f.getName() + " is private else", isConstant || Modifier.isPrivate(mods));
            CHECKS.holds(f.getName() + " is final if static", !Modifier.isStatic(mods) || Modifier.isFinal(mods));
        }
        Constructor<?>[] made = c.getDeclaredConstructors();
        CHECKS.holds("one public constructor without parameters",
            made.length == 1 && Modifier.isPublic(made[0].getModifiers()) && made[0].getParameterCount() == 0);
        for (Class<?> inside : c.getDeclaredClasses()) {
            CHECKS.holds(inside.getName() + " is static", Modifier.isStatic(inside.getModifiers()));
        }
    }

    private static void source(Path file) throws Exception {
        JavaCompiler compiler = ToolProvider.getSystemJavaCompiler();
        try (StandardJavaFileManager files = compiler.getStandardFileManager(null, null, null)) {
            JavacTask task = (JavacTask) compiler.getTask(null, files, null, null, null,
                files.getJavaFileObjects(file.toFile()));
            for (CompilationUnitTree unit : task.parse()) {
                CHECKS.holds("no package", unit.getPackage() == null);
                CHECKS.holds("no import", unit.getImports().isEmpty());
                Rules rules = new Rules(unit, Trees.instance(task).getSourcePositions());
                rules.scan(unit, null);
                rules.atTheEnd();
            }
        }
    }

    private static final class Rules extends TreeScanner<Void, Void> {
        private final CompilationUnitTree unit;
        private final SourcePositions positions;
        private final Map<String, Set<String>> calls = new HashMap<>();
        private String method = "";
        private int classes = 0;

        Rules(CompilationUnitTree unit, SourcePositions positions) {
            this.unit = unit;
            this.positions = positions;
        }

        private void none(String what, Tree tree) {
            CHECKS.holds("no " + what + ": line " + line(positions.getStartPosition(unit, tree)), false);
        }

        private long line(long position) {
            return unit.getLineMap().getLineNumber(position);
        }

        @Override
        public Void visitClass(ClassTree tree, Void nothing) {
            classes++;
            int fields = 0;
            for (Tree member : tree.getMembers()) {
                if (member instanceof VariableTree v
                    && !v.getModifiers().getFlags().contains(javax.lang.model.element.Modifier.STATIC)) {
                    fields++;
                }
                CHECKS.holds("no initialiser block", member.getKind() != Tree.Kind.BLOCK);
            }
            CHECKS.holds(tree.getSimpleName() + " has at most twenty fields", fields <= 20);
            return super.visitClass(tree, nothing);
        }

        @Override
        public Void visitMethod(MethodTree tree, Void nothing) {
            method = tree.getName().toString();
            boolean isNew = method.equals("<init>") || !calls.containsKey(method);
            CHECKS.holds(method + " is named once, so that calls can be followed by name", isNew);
            calls.putIfAbsent(method, new HashSet<>());
            CHECKS.holds(method + " takes at most seven", tree.getParameters().size() <= 7);
            long lines = line(positions.getEndPosition(unit, tree)) - line(positions.getStartPosition(unit, tree)) + 1;
            CHECKS.holds(method + " is short, " + lines, lines <= 60);
            return super.visitMethod(tree, nothing);
        }

        @Override
        public Void visitMethodInvocation(MethodInvocationTree tree, Void nothing) {
            String called = tree.getMethodSelect().toString();
            if (tree.getMethodSelect() instanceof MemberSelectTree select
                && select.getExpression() instanceof IdentifierTree of && isTypeName(of.getName().toString())) {
                CHECKS.holds("in the library: " + called, LIBRARY.contains(called));
            }
            calls.computeIfAbsent(method, m -> new HashSet<>()).add(called.substring(called.lastIndexOf('.') + 1));
            return super.visitMethodInvocation(tree, nothing);
        }

        private static boolean isTypeName(String name) {
            return name.length() > 1 && Character.isUpperCase(name.charAt(0)) && !name.equals(name.toUpperCase());
        }

        @Override
        public Void visitThrow(ThrowTree tree, Void nothing) {
            none("throw", tree);
            return super.visitThrow(tree, nothing);
        }

        @Override
        public Void visitTry(TryTree tree, Void nothing) {
            none("try", tree);
            return super.visitTry(tree, nothing);
        }

        @Override
        public Void visitSynchronized(SynchronizedTree tree, Void nothing) {
            none("synchronized", tree);
            return super.visitSynchronized(tree, nothing);
        }

        @Override
        public Void visitAssert(AssertTree tree, Void nothing) {
            none("assert", tree);
            return super.visitAssert(tree, nothing);
        }

        @Override
        public Void visitLambdaExpression(LambdaExpressionTree tree, Void nothing) {
            none("lambda", tree);
            return super.visitLambdaExpression(tree, nothing);
        }

        @Override
        public Void visitMemberReference(MemberReferenceTree tree, Void nothing) {
            none("method reference", tree);
            return super.visitMemberReference(tree, nothing);
        }

        @Override
        public Void visitWhileLoop(WhileLoopTree tree, Void nothing) {
            none("loop without a counter", tree);
            return super.visitWhileLoop(tree, nothing);
        }

        @Override
        public Void visitNewClass(NewClassTree tree, Void nothing) {
            if (tree.getClassBody() != null || !method.equals("<init>")) {
                none("anonymous class, nor an object made behind the constructor", tree);
            }
            return super.visitNewClass(tree, nothing);
        }

        @Override
        public Void visitTypeCast(TypeCastTree tree, Void nothing) {
            String to = tree.getType().toString();
            CHECKS.holds("casts among numbers alone: " + to, to.equals("int") || to.equals("long"));
            return super.visitTypeCast(tree, nothing);
        }

        private void atTheEnd() {
            CHECKS.holds("at most twelve classes", classes <= 12);
            for (String start : FACE) {
                List<String> way = longestFrom(start.substring(0, start.indexOf('/')), new ArrayList<>());
                CHECKS.holds("at most eight deep, no recursion: " + way, way.size() <= 8);
            }
        }

        private List<String> longestFrom(String name, List<String> above) {
            List<String> here = new ArrayList<>(above);
            here.add(name);
            List<String> longest = here;
            if (above.contains(name) || above.size() > 20) {
                CHECKS.holds("no recursion: " + here, false);
                return here;
            }
            for (String called : calls.getOrDefault(name, Set.of())) {
                List<String> way = longestFrom(called, here);
                if (way.size() > longest.size()) {
                    longest = way;
                }
            }
            return longest;
        }
    }
}
