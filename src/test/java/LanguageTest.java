import com.sun.source.tree.ClassTree;
import com.sun.source.tree.CompilationUnitTree;
import com.sun.source.tree.ForLoopTree;
import com.sun.source.tree.MemberSelectTree;
import com.sun.source.tree.MethodInvocationTree;
import com.sun.source.tree.MethodTree;
import com.sun.source.tree.NewClassTree;
import com.sun.source.tree.Tree;
import com.sun.source.tree.VariableTree;
import com.sun.source.util.JavacTask;
import com.sun.source.util.SourcePositions;
import com.sun.source.util.TreePath;
import com.sun.source.util.TreePathScanner;
import com.sun.source.util.Trees;
import java.io.File;
import java.lang.reflect.Constructor;
import java.lang.reflect.Field;
import java.lang.reflect.Member;
import java.lang.reflect.Method;
import java.lang.reflect.Modifier;
import java.nio.file.Files;
import java.nio.file.Path;
import java.util.EnumSet;
import java.util.HashMap;
import java.util.HashSet;
import java.util.List;
import java.util.Map;
import java.util.Set;
import java.util.TreeSet;
import java.util.regex.Matcher;
import java.util.regex.Pattern;
import javax.lang.model.element.Element;
import javax.lang.model.element.ExecutableElement;
import javax.lang.model.element.TypeElement;
import javax.lang.model.element.VariableElement;
import javax.tools.JavaCompiler;
import javax.tools.StandardJavaFileManager;
import javax.tools.ToolProvider;

/** The public face, and those rules of LANGUAGE.md that can be seen in the source. */
public final class LanguageTest {
    private static final Path SOURCE = Path.of("src/main/java/SecondChances.java");
    private static final Path DOCUMENT = Path.of("../shared/DOC.md");
    private static int wrong;

    private static void hold(int rule, boolean holds, String what) {
        if (!holds) {
            wrong++;
            System.out.println("rule " + rule + ": " + what);
        }
    }

    public static void main(String[] args) throws Exception {
        faceIsAsTold();
        nothingElseIsSeen();
        sourceKeepsToTheRules();
        System.out.println(wrong == 0 ? "the rules are kept" : wrong + " rules are broken");
        if (wrong != 0) {
            System.exit(1);
        }
    }

    private static void faceIsAsTold() throws Exception {
        Set<String> told = new TreeSet<>();
        Matcher line = Pattern.compile("^    public (int|long) (\\w+)\\(([^)]*)\\);$", Pattern.MULTILINE).matcher(Files.readString(DOCUMENT));
        while (line.find()) {
            told.add(line.group(1) + " " + line.group(2) + "(" + line.group(3).replaceAll(" \\w+(,|$)", "$1") + ")");
        }
        Set<String> found = new TreeSet<>();
        for (Method m : SecondChances.class.getDeclaredMethods()) {
            if (Modifier.isPublic(m.getModifiers())) {
                StringBuilder types = new StringBuilder();
                for (Class<?> type : m.getParameterTypes()) {
                    types.append(types.length() == 0 ? "" : ", ").append(type.getName());
                }
                found.add(m.getReturnType().getName() + " " + m.getName() + "(" + types + ")");
                hold(1, !Modifier.isStatic(m.getModifiers()), m.getName() + " is static");
            }
        }
        hold(1, told.size() == 37 - 1, "the document's face has " + told.size() + " methods");
        hold(1, told.equals(found), "the face is " + found + ", told is " + told);
        int kind = SecondChances.class.getModifiers();
        hold(1, Modifier.isPublic(kind) && Modifier.isFinal(kind), "the class is not public and final");
    }

    private static void nothingElseIsSeen() {
        for (Constructor<?> c : SecondChances.class.getDeclaredConstructors()) {
            hold(1, c.getParameterCount() == 0 && Modifier.isPublic(c.getModifiers()), "another constructor");
        }
        List<String> constants = List.of("NONE", "BAD", "NOT", "FULL");
        for (Field f : SecondChances.class.getDeclaredFields()) {
            hold(1, isPrivate(f) != constants.contains(f.getName()), f.getName() + " is not as visible as told");
        }
        for (Method m : SecondChances.class.getDeclaredMethods()) {
            hold(1, isPrivate(m) || Modifier.isPublic(m.getModifiers()), m.getName() + " is visible");
        }
        hold(11, SecondChances.class.getDeclaredClasses().length < 12, "too many classes");
        for (Class<?> c : SecondChances.class.getDeclaredClasses()) {
            hold(2, Modifier.isStatic(c.getModifiers()), c.getName() + " is not static");
            hold(1, !Modifier.isPublic(c.getModifiers()) && !Modifier.isProtected(c.getModifiers()), c.getName() + " is public");
        }
    }

    private static boolean isPrivate(Member m) {
        return Modifier.isPrivate(m.getModifiers());
    }

    private static void sourceKeepsToTheRules() throws Exception {
        JavaCompiler compiler = ToolProvider.getSystemJavaCompiler();
        try (StandardJavaFileManager files = compiler.getStandardFileManager(null, null, null)) {
            JavacTask task = (JavacTask) compiler.getTask(null, files, null, List.of("-proc:none"), null,
                files.getJavaFileObjects(new File(SOURCE.toString())));
            CompilationUnitTree unit = task.parse().iterator().next();
            task.analyze();
            hold(3, unit.getPackageName() == null, "there is a package line");
            Reader reader = new Reader(Trees.instance(task), unit);
            reader.scan(unit, null);
            reader.judgeCalls();
        }
    }

    /** Goes through the source once and notes who calls whom. */
    private static final class Reader extends TreePathScanner<Void, Void> {
        private static final Set<Tree.Kind> FORBIDDEN = EnumSet.of(Tree.Kind.THROW, Tree.Kind.TRY, Tree.Kind.CATCH,
            Tree.Kind.SYNCHRONIZED, Tree.Kind.ASSERT, Tree.Kind.LAMBDA_EXPRESSION, Tree.Kind.MEMBER_REFERENCE);
        private static final Set<String> LIBRARY = Set.of("java.lang.Math.min", "java.lang.Math.max", "java.lang.Math.abs",
            "java.lang.Integer.bitCount", "java.lang.System.arraycopy");
        private final Trees trees;
        private final SourcePositions places;
        private final CompilationUnitTree unit;
        private final Map<Element, Set<Element>> calls = new HashMap<>();
        private final Set<String> face = new HashSet<>();
        private Element inside;

        Reader(Trees trees, CompilationUnitTree unit) {
            this.trees = trees;
            this.unit = unit;
            places = trees.getSourcePositions();
            for (Method m : SecondChances.class.getDeclaredMethods()) {
                if (Modifier.isPublic(m.getModifiers())) {
                    face.add(m.getName());
                }
            }
        }

        @Override
        public Void scan(Tree tree, Void v) {
            if (tree != null) {
                hold(6, !FORBIDDEN.contains(tree.getKind()), "there is a " + tree.getKind());
            }
            return super.scan(tree, v);
        }

        @Override
        public Void visitClass(ClassTree tree, Void v) {
            int fields = 0;
            for (Tree member : tree.getMembers()) {
                if (member instanceof VariableTree f) {
                    boolean fixed = f.getModifiers().getFlags().contains(javax.lang.model.element.Modifier.STATIC);
                    fields += fixed ? 0 : 1;
                    hold(5, !fixed || f.getModifiers().getFlags().contains(javax.lang.model.element.Modifier.FINAL), f.getName() + " changes");
                }
                hold(5, member.getKind() != Tree.Kind.BLOCK, "an initialiser block");
            }
            hold(11, fields <= 20, tree.getSimpleName() + " has " + fields + " fields");
            return super.visitClass(tree, v);
        }

        @Override
        public Void visitMethod(MethodTree tree, Void v) {
            Element outer = inside;
            inside = trees.getElement(getCurrentPath());
            calls.putIfAbsent(inside, new HashSet<>());
            long first = unit.getLineMap().getLineNumber(places.getStartPosition(unit, tree));
            long last = unit.getLineMap().getLineNumber(Math.max(0, places.getEndPosition(unit, tree)));
            hold(11, last - first < 60, tree.getName() + " has " + (last - first + 1) + " lines");
            hold(11, tree.getParameters().size() <= 7, tree.getName() + " takes too much");
            boolean seen = tree.getModifiers().getFlags().contains(javax.lang.model.element.Modifier.PUBLIC);
            hold(1, seen || !face.contains(tree.getName().toString()), tree.getName() + " is a name of the face");
            super.visitMethod(tree, v);
            inside = outer;
            return null;
        }

        @Override
        public Void visitForLoop(ForLoopTree tree, Void v) {
            hold(9, tree.getCondition() != null, "a loop without a bound");
            return super.visitForLoop(tree, v);
        }

        @Override
        public Void visitMethodInvocation(MethodInvocationTree tree, Void v) {
            note(trees.getElement(new TreePath(getCurrentPath(), tree.getMethodSelect())));
            return super.visitMethodInvocation(tree, v);
        }

        @Override
        public Void visitMemberSelect(MemberSelectTree tree, Void v) {
            if (trees.getElement(getCurrentPath()) instanceof VariableElement field
                && field.getEnclosingElement() instanceof TypeElement owner) {
                String name = owner.getQualifiedName().toString();
                boolean own = name.startsWith("SecondChances") || name.equals("Array");
                hold(4, own, name + "." + field.getSimpleName() + " is a field of the library");
            }
            return super.visitMemberSelect(tree, v);
        }

        @Override
        public Void visitNewClass(NewClassTree tree, Void v) {
            hold(12, inside == null || inside.getSimpleName().contentEquals("<init>"), inside + " makes an object");
            return super.visitNewClass(tree, v);
        }

        private void note(Element called) {
            if (!(called instanceof ExecutableElement) || called.getSimpleName().contentEquals("<init>")) {
                return;
            }
            String owner = ((TypeElement) called.getEnclosingElement()).getQualifiedName().toString();
            if (owner.startsWith("SecondChances")) {
                calls.computeIfAbsent(inside, k -> new HashSet<>()).add(called);
            } else {
                hold(4, LIBRARY.contains(owner + "." + called.getSimpleName()), owner + "." + called.getSimpleName() + " is not known to be allowed");
            }
        }

        void judgeCalls() {
            for (Element method : calls.keySet()) {
                int depth = depthOf(method, new HashSet<>());
                hold(11, depth <= 8, method + " goes " + depth + " calls deep");
            }
        }

        private int depthOf(Element method, Set<Element> open) {
            if (!open.add(method)) {
                hold(8, false, method + " calls itself");
                return 0;
            }
            int most = 0;
            for (Element called : calls.getOrDefault(method, Set.of())) {
                most = Math.max(most, depthOf(called, open));
            }
            open.remove(method);
            return most + 1;
        }
    }
}
