import com.sun.source.tree.AssertTree;
import com.sun.source.tree.BinaryTree;
import com.sun.source.tree.ClassTree;
import com.sun.source.tree.CompilationUnitTree;
import com.sun.source.tree.ExpressionTree;
import com.sun.source.tree.IdentifierTree;
import com.sun.source.tree.ImportTree;
import com.sun.source.tree.LambdaExpressionTree;
import com.sun.source.tree.MemberReferenceTree;
import com.sun.source.tree.MemberSelectTree;
import com.sun.source.tree.MethodInvocationTree;
import com.sun.source.tree.MethodTree;
import com.sun.source.tree.SynchronizedTree;
import com.sun.source.tree.ThrowTree;
import com.sun.source.tree.Tree;
import com.sun.source.tree.TryTree;
import com.sun.source.tree.VariableTree;
import com.sun.source.util.JavacTask;
import com.sun.source.util.SourcePositions;
import com.sun.source.util.TreeScanner;
import com.sun.source.util.Trees;
import java.io.File;
import java.lang.reflect.Constructor;
import java.lang.reflect.Field;
import java.lang.reflect.Method;
import java.lang.reflect.Modifier;
import java.util.HashMap;
import java.util.HashSet;
import java.util.Map;
import java.util.Set;
import java.util.TreeSet;
import javax.tools.JavaCompiler;
import javax.tools.StandardJavaFileManager;
import javax.tools.ToolProvider;

/** The face of the class, and those rules of LANGUAGE.md that can be seen in its text. */
public final class LanguageTest {
    private static final String[] METHODS = {
        "set(int,int)", "mesh(int,int)", "link(int,int,int)", "send(int,int)", "ticks(int)", "ofPacket(int,int)",
        "ofBox(int,int)", "count(int)", "leastWay(int,int)", "ways(int,int)", "pairs()", "worstLink(int)",
        "busiest(int)", "arrivesIn(int)", "arrivedBy(int)", "put(long)", "wipe()", "fault()", "carryOut()", "undo()",
        "save(int)", "restore(int)"};
    private static final String[] CONSTANTS = {
        "NO_SUCH=-1", "BAD_VALUE=-2", "BAD_TEXT=-3", "TOO_MANY=-4", "NOT_POSSIBLE=-5", "NONE=-6", "RULE=0", "DETOURS=1",
        "ROOM=2", "EAST=0", "WEST=1", "NORTH=2", "SOUTH=3", "OUTSIDE=0", "INSIDE=1", "ARRIVED=2"};
    /** All that the program takes of the library; each stands in rule 4. */
    private static final Set<String> LIBRARY = Set.of("arraycopy", "abs", "max", "min", "bitCount");

    public static void main(String[] args) throws Exception {
        face();
        text();
        Due.finish();
    }

    private static void is(String what, boolean holds) {
        Due.due(what + " (1: it holds)", holds ? 1 : 0, 1);
    }

    // ---- the face

    private static void face() throws IllegalAccessException {
        Set<String> seen = new TreeSet<>();
        Set<String> names = new HashSet<>();
        for (Method method : MeshTurns.class.getDeclaredMethods()) {
            if (!Modifier.isPrivate(method.getModifiers())) {
                is(method + " is public and no static one", method.getModifiers() == Modifier.PUBLIC);
                is(method + " returns an int", method.getReturnType() == int.class);
                seen.add(signature(method));
                names.add(method.getName());
            }
        }
        is("the methods are " + seen, seen.equals(new TreeSet<>(Set.of(METHODS))));
        Set<String> constants = new TreeSet<>();
        for (Field field : MeshTurns.class.getDeclaredFields()) {
            if (!Modifier.isPrivate(field.getModifiers())) {
                is(field + " is a constant", field.getModifiers() == (Modifier.PUBLIC | Modifier.STATIC | Modifier.FINAL));
                constants.add(field.getName() + "=" + field.getInt(null));
            }
        }
        is("the constants are " + constants, constants.equals(new TreeSet<>(Set.of(CONSTANTS))));
        Constructor<?>[] constructors = MeshTurns.class.getDeclaredConstructors();
        is("one public constructor without arguments", constructors.length == 1
            && constructors[0].getModifiers() == Modifier.PUBLIC && constructors[0].getParameterCount() == 0);
        is("the class is final", MeshTurns.class.getModifiers() == (Modifier.PUBLIC | Modifier.FINAL));
        for (Class<?> inside : MeshTurns.class.getDeclaredClasses()) {
            int modifiers = inside.getModifiers();
            is(inside + " is static", Modifier.isStatic(modifiers));
            is(inside + " is private or package-visible", !Modifier.isPublic(modifiers) && !Modifier.isProtected(modifiers));
            for (Method method : inside.getDeclaredMethods()) {
                is(method + " bears no name of a public one", !names.contains(method.getName()));
            }
        }
        for (Method method : MeshTurns.class.getDeclaredMethods()) {
            is(method + " is public, or bears no name of a public one",
                Modifier.isPublic(method.getModifiers()) || !names.contains(method.getName()));
        }
    }

    private static String signature(Method method) {
        StringBuilder text = new StringBuilder(method.getName()).append('(');
        for (Class<?> parameter : method.getParameterTypes()) {
            text.append(text.charAt(text.length() - 1) == '(' ? "" : ",").append(parameter.getName());
        }
        return text.append(')').toString();
    }

    // ---- the text

    private static void text() throws Exception {
        File file = new File(System.getProperty("project", "."), "src/main/java/MeshTurns.java");
        JavaCompiler compiler = ToolProvider.getSystemJavaCompiler();
        try (StandardJavaFileManager files = compiler.getStandardFileManager(null, null, null)) {
            JavacTask task = (JavacTask) compiler.getTask(null, files, null, null, null, files.getJavaFileObjects(file));
            SourcePositions positions = Trees.instance(task).getSourcePositions();
            for (CompilationUnitTree unit : task.parse()) {
                is("no package", unit.getPackageName() == null);
                Reader reader = new Reader(unit, positions);
                reader.scan(unit, null);
                is("at most twelve classes", reader.classes <= 12);
                reader.lookAtCalls();
            }
        }
    }

    private static final class Reader extends TreeScanner<Void, Void> {
        private final CompilationUnitTree unit;
        private final SourcePositions positions;
        /** By the name of a method, the names of those that it calls; methods of one name count as one. */
        private final Map<String, Set<String>> calls = new HashMap<>();
        private String method = "<none>";
        private int classes = 0;

        Reader(CompilationUnitTree unit, SourcePositions positions) {
            this.unit = unit;
            this.positions = positions;
        }

        private long line(long position) {
            return unit.getLineMap().getLineNumber(position);
        }

        private void never(Tree tree, String what) {
            is("line " + line(positions.getStartPosition(unit, tree)) + ": no " + what, false);
        }

        @Override public Void visitImport(ImportTree tree, Void none) {
            never(tree, "import");
            return super.visitImport(tree, none);
        }

        @Override public Void visitThrow(ThrowTree tree, Void none) {
            never(tree, "throw");
            return super.visitThrow(tree, none);
        }

        @Override public Void visitTry(TryTree tree, Void none) {
            never(tree, "try");
            return super.visitTry(tree, none);
        }

        @Override public Void visitSynchronized(SynchronizedTree tree, Void none) {
            never(tree, "synchronized");
            return super.visitSynchronized(tree, none);
        }

        @Override public Void visitAssert(AssertTree tree, Void none) {
            never(tree, "assert");
            return super.visitAssert(tree, none);
        }

        @Override public Void visitLambdaExpression(LambdaExpressionTree tree, Void none) {
            never(tree, "lambda");
            return super.visitLambdaExpression(tree, none);
        }

        @Override public Void visitMemberReference(MemberReferenceTree tree, Void none) {
            never(tree, "method reference");
            return super.visitMemberReference(tree, none);
        }

        @Override public Void visitBinary(BinaryTree tree, Void none) {
            boolean joins = tree.getKind() == Tree.Kind.PLUS
                && (tree.getLeftOperand().getKind() == Tree.Kind.STRING_LITERAL
                    || tree.getRightOperand().getKind() == Tree.Kind.STRING_LITERAL);
            if (joins) {
                never(tree, "text joined by +");
            }
            return super.visitBinary(tree, none);
        }

        @Override public Void visitClass(ClassTree tree, Void none) {
            classes++;
            int fields = 0;
            for (Tree member : tree.getMembers()) {
                if (member instanceof VariableTree) {
                    VariableTree field = (VariableTree) member;
                    boolean isStatic = field.getModifiers().getFlags().contains(javax.lang.model.element.Modifier.STATIC);
                    boolean isFinal = field.getModifiers().getFlags().contains(javax.lang.model.element.Modifier.FINAL);
                    is("static field " + field.getName() + " is final", !isStatic || isFinal);
                    fields += isStatic ? 0 : 1;
                }
                is("no initialiser block in " + tree.getSimpleName(), member.getKind() != Tree.Kind.BLOCK);
            }
            is("at most twenty fields in " + tree.getSimpleName(), fields <= 20);
            return super.visitClass(tree, none);
        }

        @Override public Void visitMethod(MethodTree tree, Void none) {
            String outer = method;
            method = tree.getName().toString();
            calls.putIfAbsent(method, new HashSet<>());
            if (positions.getEndPosition(unit, tree) >= 0) {
                long lines = 1 + line(positions.getEndPosition(unit, tree)) - line(positions.getStartPosition(unit, tree));
                is(method + " has at most sixty lines", lines <= 60);
            }
            is(method + " has at most seven parameters", tree.getParameters().size() <= 7);
            super.visitMethod(tree, none);
            method = outer;
            return null;
        }

        @Override public Void visitMethodInvocation(MethodInvocationTree tree, Void none) {
            ExpressionTree select = tree.getMethodSelect();
            String name = select instanceof IdentifierTree ? ((IdentifierTree) select).getName().toString()
                : ((MemberSelectTree) select).getIdentifier().toString();
            if (!name.equals("super")) {
                calls.computeIfAbsent(method, key -> new HashSet<>()).add(name);
            }
            return super.visitMethodInvocation(tree, none);
        }

        void lookAtCalls() {
            for (Set<String> called : calls.values()) {
                for (String name : called) {
                    is(name + "() is the program's own, or in the list of the library", calls.containsKey(name) || LIBRARY.contains(name));
                }
            }
            for (String name : calls.keySet()) {
                is("calls from " + name + " go at most eight deep", depth(name, 1) <= 8);
            }
        }

        /** The library's own functions count, too; more than eight is the answer for a recursion as well. */
        private int depth(String name, int above) {
            if (above > 8) {
                return above;
            }
            int deepest = above;
            for (String called : calls.getOrDefault(name, Set.of())) {
                deepest = Math.max(deepest, depth(called, above + 1));
            }
            return deepest;
        }
    }
}
