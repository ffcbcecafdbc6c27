import com.sun.source.tree.CompilationUnitTree;
import com.sun.source.tree.Tree;
import com.sun.source.tree.VariableTree;
import com.sun.source.tree.ClassTree;
import com.sun.source.tree.LineMap;
import com.sun.source.tree.MethodInvocationTree;
import com.sun.source.tree.MethodTree;
import com.sun.source.tree.NewClassTree;
import com.sun.source.util.JavacTask;
import com.sun.source.util.TreePath;
import com.sun.source.util.TreePathScanner;
import com.sun.source.util.Trees;
import java.io.File;
import java.util.HashMap;
import java.util.HashSet;
import java.util.LinkedHashMap;
import java.util.List;
import java.util.Map;
import java.util.Set;
import java.util.TreeSet;
import javax.lang.model.element.Element;
import javax.lang.model.element.ExecutableElement;
import javax.lang.model.element.Modifier;
import javax.tools.JavaCompiler;
import javax.tools.StandardJavaFileManager;
import javax.tools.ToolProvider;

/** Those rules of ../shared/LANGUAGE.md that can be told from the source of the program. Runs in the project's folder. */
public final class LanguageTest {
    private static final String SOURCE = "src/main/java/BorderStamps.java";
    private static final String FACE = "issue(int) renew(int) grant(int,int,int,int,int) revoke(int,int) turnBorder(int,int)"
        + " cross(int,int,int) pass(int) type(char) clearText() perform() stopped(int) undo() keep() restore()"
        + " passport(int,int) stamp(int,int,int) visa(int,int,int) reason(int,int) stay(int,int,int,int,boolean)"
        + " wayTo(int,int) daysLeft(int,int) mistold() holders(int,boolean) count(int) BorderStamps()"
        + " UNKNOWN BAD_VALUE FULL NOT_POSSIBLE NONE REFUSED";
    private static final Set<Tree.Kind> FORBIDDEN = Set.of(Tree.Kind.THROW, Tree.Kind.TRY, Tree.Kind.CATCH,
        Tree.Kind.SYNCHRONIZED, Tree.Kind.ASSERT, Tree.Kind.LAMBDA_EXPRESSION, Tree.Kind.MEMBER_REFERENCE,
        Tree.Kind.IMPORT, Tree.Kind.PACKAGE, Tree.Kind.INSTANCE_OF, Tree.Kind.TYPE_CAST, Tree.Kind.DIVIDE_ASSIGNMENT);
    private static final Set<String> LIBRARY = Set.of("Math.min", "Math.max", "Integer.bitCount", "Long.bitCount",
        "System.arraycopy");

    private static final Due DUE = new Due("LanguageTest");

    public static void main(String[] args) throws Exception {
        JavaCompiler compiler = ToolProvider.getSystemJavaCompiler();
        try (StandardJavaFileManager files = compiler.getStandardFileManager(null, null, null)) {
            JavacTask task = (JavacTask) compiler.getTask(null, files, null, List.of("--release", "17"), null,
                files.getJavaFileObjects(new File(SOURCE)));
            CompilationUnitTree unit = task.parse().iterator().next();
            task.analyze();
            DUE.is("types at the top of the file", unit.getTypeDecls().size(), 1);
            Source source = new Source(Trees.instance(task), unit);
            source.scan(unit, null);
            source.judge();
        }
        DUE.end();
    }

    private static final class Source extends TreePathScanner<Void, Void> {
        private final Trees trees;
        private final CompilationUnitTree unit;
        private final Map<Element, Set<Element>> calls = new LinkedHashMap<>();
        private final Map<Element, Integer> depths = new HashMap<>();
        private final Set<Element> open = new HashSet<>();
        private final Set<String> face = new TreeSet<>();
        private final Set<String> hidden = new TreeSet<>();
        private Element method;
        private int classes;

        Source(Trees trees, CompilationUnitTree unit) {
            this.trees = trees;
            this.unit = unit;
        }

        @Override
        public Void scan(Tree tree, Void nothing) {
            if (tree != null && FORBIDDEN.contains(tree.getKind())) {
                DUE.holds("no " + tree.getKind() + " in line " + line(tree, true), false);
            }
            return super.scan(tree, nothing);
        }

        private long line(Tree tree, boolean first) {
            LineMap lines = unit.getLineMap();
            return lines.getLineNumber(first ? trees.getSourcePositions().getStartPosition(unit, tree)
                : trees.getSourcePositions().getEndPosition(unit, tree));
        }

        private Element here() {
            return trees.getElement(getCurrentPath());
        }

        private static boolean isOuter(Element type) {
            return type.getSimpleName().contentEquals("BorderStamps");
        }

        @Override
        public Void visitClass(ClassTree tree, Void nothing) {
            classes++;
            Element type = here();
            Set<Modifier> modifiers = type.getModifiers();
            DUE.holds(type + " is final", modifiers.contains(Modifier.FINAL));
            if (!isOuter(type)) {
                DUE.holds(type + " is static", modifiers.contains(Modifier.STATIC));
                DUE.holds(type + " is not public", !modifiers.contains(Modifier.PUBLIC));
                DUE.holds(type + " stands in the outer class itself", isOuter(type.getEnclosingElement()));
            }
            long fields = tree.getMembers().stream().filter(m -> m instanceof VariableTree)
                .filter(m -> !((VariableTree) m).getModifiers().getFlags().contains(Modifier.STATIC)).count();
            DUE.holds(type + " has at most 20 fields", fields <= 20);
            return super.visitClass(tree, nothing);
        }

        @Override
        public Void visitVariable(VariableTree tree, Void nothing) {
            Element element = here();
            if (element.getKind().isField()) {
                Set<Modifier> modifiers = element.getModifiers();
                DUE.holds(element + " is final if it is static",
                    !modifiers.contains(Modifier.STATIC) || modifiers.contains(Modifier.FINAL));
                noteMember(element, element.toString());
            }
            return super.visitVariable(tree, nothing);
        }

        private void noteMember(Element element, String name) {
            if (element.getModifiers().contains(Modifier.PUBLIC)) {
                DUE.holds(name + " is public in the outer class alone", isOuter(element.getEnclosingElement()));
                face.add(name);
            } else if (isOuter(element.getEnclosingElement())) {
                DUE.holds(name + " is private", element.getModifiers().contains(Modifier.PRIVATE));
            }
        }

        @Override
        public Void visitMethod(MethodTree tree, Void nothing) {
            method = here();
            calls.put(method, new HashSet<>());
            noteMember(method, method.toString());
            if (!method.getModifiers().contains(Modifier.PUBLIC)) {
                hidden.add(method.getSimpleName().toString());
            }
            DUE.holds(method + " takes at most 7 parameters", tree.getParameters().size() <= 7);
            DUE.holds(method + " is at most 60 lines long", line(tree, false) - line(tree, true) < 60);
            return super.visitMethod(tree, nothing);
        }

        @Override
        public Void visitMethodInvocation(MethodInvocationTree tree, Void nothing) {
            noteCall(trees.getElement(new TreePath(getCurrentPath(), tree.getMethodSelect())));
            return super.visitMethodInvocation(tree, nothing);
        }

        @Override
        public Void visitNewClass(NewClassTree tree, Void nothing) {
            DUE.holds("no anonymous class in line " + line(tree, true), tree.getClassBody() == null);
            noteCall(trees.getElement(getCurrentPath()));
            return super.visitNewClass(tree, nothing);
        }

        private void noteCall(Element called) {
            calls.get(method).add(called);
        }

        private static boolean isOfLibrary(Element called) {
            return called.getEnclosingElement().toString().startsWith("java.");
        }

        void judge() {
            DUE.holds("there are at most 12 classes", classes <= 12);
            DUE.holds("the face is that of the document: " + face, face.equals(new TreeSet<>(Set.of(FACE.split(" ")))));
            for (String name : hidden) {
                DUE.holds(name + " is not the name of a public method, too", !FACE.matches("(.* )?" + name + "\\(.*"));
                DUE.holds(name + " is not ruled out", !Set.of("equals", "hashCode", "toString").contains(name));
            }
            for (Element one : calls.keySet()) {
                DUE.holds("calls from " + one + " go at most 8 deep, but " + depth(one), depth(one) <= 8);
                calls.get(one).stream().filter(Source::isOfLibrary).forEach(Source::judgeLibrary);
            }
        }

        private static void judgeLibrary(Element called) {
            String name = called.getEnclosingElement().getSimpleName() + "." + called.getSimpleName();
            DUE.holds(name + " is a call that the program needs of the library",
                LIBRARY.contains(name) || name.equals("Object.<init>"));
        }

        /** A call of the library's counts as one that calls nothing. */
        private int depth(Element element) {
            if (!(element instanceof ExecutableElement) || !calls.containsKey(element)) {
                return 1;
            }
            if (depths.containsKey(element)) {
                return depths.get(element);
            }
            if (!open.add(element)) {
                DUE.holds(element + " does not call itself", false);
                return 1;
            }
            int depth = 1;
            for (Element called : calls.get(element)) {
                depth = Math.max(depth, 1 + depth(called));
            }
            open.remove(element);
            depths.put(element, depth);
            return depth;
        }
    }
}
