import com.sun.source.tree.*;
import com.sun.source.util.JavacTask;
import com.sun.source.util.TreePath;
import com.sun.source.util.TreePathScanner;
import com.sun.source.util.Trees;
import java.nio.file.Files;
import java.nio.file.Path;
import java.util.ArrayDeque;
import java.util.ArrayList;
import java.util.Deque;
import java.util.HashMap;
import java.util.HashSet;
import java.util.List;
import java.util.Map;
import java.util.Set;
import java.util.TreeMap;
import java.util.TreeSet;
import java.util.regex.Matcher;
import java.util.regex.Pattern;
import javax.lang.model.element.Element;
import javax.lang.model.element.ElementKind;
import javax.lang.model.element.Modifier;
import javax.tools.JavaCompiler;
import javax.tools.StandardJavaFileManager;
import javax.tools.ToolProvider;

/** What can be read from the source alone of ../shared/LANGUAGE.md, and the face of ../shared/DOC.md. */
public final class LanguageTest {
    private static final Path SOURCE = Path.of("src/main/java/TrainBearers.java");
    private static final Path DOCUMENT = Path.of("../shared/DOC.md");
    private static final Checks C = new Checks("LanguageTest");
    private static final Set<String> LIBRARY = Set.of("Math.max", "Math.min", "Math.abs", "Integer.bitCount",
        "System.arraycopy", "Arrays.fill", "Arrays.copyOf", "String.length", "String.charAt", "Object.<init>");

    private LanguageTest() {
    }

    public static void main(String[] args) throws Exception {
        JavaCompiler compiler = ToolProvider.getSystemJavaCompiler();
        try (StandardJavaFileManager files = compiler.getStandardFileManager(null, null, null)) {
            JavacTask task = (JavacTask) compiler.getTask(null, files, null, List.of("-proc:none"), null,
                files.getJavaFileObjects(SOURCE));
            CompilationUnitTree unit = task.parse().iterator().next();
            task.analyze();
            Scan scan = new Scan(unit, Trees.instance(task));
            scan.scan(unit, null);
            scan.judge();
        }
        C.finish();
    }

    private static final class Scan extends TreePathScanner<Void, Void> {
        private final CompilationUnitTree unit;
        private final Trees trees;
        private final Map<String, Set<String>> calls = new TreeMap<>();
        private final Map<String, Set<String>> libraryCalls = new TreeMap<>();
        private final Set<String> publicNames = new HashSet<>();
        private final Set<String> privateNames = new TreeSet<>();
        private final Set<String> face = new TreeSet<>();
        private int classes;

        Scan(CompilationUnitTree unit, Trees trees) {
            this.unit = unit;
            this.trees = trees;
        }

        private long line(Tree tree) {
            return unit.getLineMap().getLineNumber(trees.getSourcePositions().getStartPosition(unit, tree));
        }

        private void forbidden(String what, Tree tree) {
            C.dueTrue(what + " in line " + line(tree), false);
        }

        private void most(String what, long has, long most) {
            C.dueTrue(what + " " + has + " of " + most, has <= most);
        }

        @Override
        public Void visitClass(ClassTree tree, Void v) {
            classes++;
            Element e = trees.getElement(getCurrentPath());
            boolean outer = e.getSimpleName().contentEquals("TrainBearers");
            C.dueTrue("11: " + e + " is a class of rule 2", e.getModifiers().contains(outer ? Modifier.PUBLIC : Modifier.STATIC));
            long fields = 0;
            for (Element m : e.getEnclosedElements()) {
                boolean field = m.getKind() == ElementKind.FIELD;
                fields += field && !m.getModifiers().contains(Modifier.STATIC) ? 1 : 0;
                C.dueTrue("5: static " + m, !field || !m.getModifiers().contains(Modifier.STATIC) || m.getModifiers().contains(Modifier.FINAL));
                if (outer && m.getModifiers().contains(Modifier.PUBLIC)) {
                    publicNames.add(m.getSimpleName().toString());
                } else if (outer) {
                    C.dueTrue("1: " + m + " is private", m.getModifiers().contains(Modifier.PRIVATE));
                }
            }
            most("11: fields of " + e, fields, 20);
            return super.visitClass(tree, v);
        }

        @Override
        public Void visitMethod(MethodTree tree, Void v) {
            Element e = trees.getElement(getCurrentPath());
            calls.putIfAbsent(name(e), new TreeSet<>());
            long first = line(tree);
            long last = unit.getLineMap().getLineNumber(trees.getSourcePositions().getEndPosition(unit, tree));
            most("11: lines of " + name(e), last - first + 1, 60);
            most("11: parameters of " + name(e), tree.getParameters().size(), 7);
            if (e.getModifiers().contains(Modifier.PUBLIC)) {
                StringBuilder sign = new StringBuilder();
                sign.append(tree.getReturnType() == null ? "TrainBearers" : tree.getReturnType() + " " + tree.getName());
                sign.append('(');
                for (VariableTree p : tree.getParameters()) {
                    sign.append(sign.charAt(sign.length() - 1) == '(' ? "" : ", ").append(p.getType()).append(' ').append(p.getName());
                }
                face.add(sign.append(')').toString());
            } else if (!tree.getName().contentEquals("<init>")) {
                privateNames.add(tree.getName().toString());
            }
            return super.visitMethod(tree, v);
        }

        private static String name(Element method) {
            return method.getEnclosingElement().getSimpleName() + "." + method.getSimpleName();
        }

        private void called(Tree tree) {
            Element to = trees.getElement(getCurrentPath());
            TreePath at = getCurrentPath();
            while (at != null && at.getLeaf().getKind() != Tree.Kind.METHOD) {
                at = at.getParentPath();
            }
            String callee = name(to);
            boolean own = to.getEnclosingElement().toString().startsWith("TrainBearers");
            if (!own) {
                C.dueTrue("4: " + callee + " in line " + line(tree) + " is listed", LIBRARY.contains(callee));
            }
            if (at != null) {
                (own ? calls : libraryCalls).computeIfAbsent(name(trees.getElement(at)), k -> new TreeSet<>()).add(callee);
            }
        }

        @Override
        public Void visitMethodInvocation(MethodInvocationTree tree, Void v) {
            called(tree);
            return super.visitMethodInvocation(tree, v);
        }

        @Override
        public Void visitNewClass(NewClassTree tree, Void v) {
            called(tree);
            if (tree.getClassBody() != null) {
                forbidden("2: an anonymous class", tree);
            }
            return super.visitNewClass(tree, v);
        }

        @Override
        public Void visitThrow(ThrowTree tree, Void v) {
            forbidden("6: throw", tree);
            return super.visitThrow(tree, v);
        }

        @Override
        public Void visitTry(TryTree tree, Void v) {
            forbidden("6: try", tree);
            return super.visitTry(tree, v);
        }

        @Override
        public Void visitAssert(AssertTree tree, Void v) {
            forbidden("6: assert", tree);
            return super.visitAssert(tree, v);
        }

        @Override
        public Void visitSynchronized(SynchronizedTree tree, Void v) {
            forbidden("6: synchronized", tree);
            return super.visitSynchronized(tree, v);
        }

        @Override
        public Void visitLambdaExpression(LambdaExpressionTree tree, Void v) {
            forbidden("2: a lambda", tree);
            return super.visitLambdaExpression(tree, v);
        }

        @Override
        public Void visitMemberReference(MemberReferenceTree tree, Void v) {
            forbidden("2: a method reference", tree);
            return super.visitMemberReference(tree, v);
        }

        @Override
        public Void visitBlock(BlockTree tree, Void v) {
            if (tree.isStatic()) {
                forbidden("5: a static block", tree);
            }
            return super.visitBlock(tree, v);
        }

        @Override
        public Void visitImport(ImportTree tree, Void v) {
            C.dueTrue("4: " + tree, tree.getQualifiedIdentifier().toString().equals("java.util.Arrays"));
            return super.visitImport(tree, v);
        }

        @Override
        public Void visitBinary(BinaryTree tree, Void v) {
            boolean text = tree.getKind() == Tree.Kind.PLUS && trees.getTypeMirror(getCurrentPath()).toString().equals("java.lang.String");
            if (text) {
                forbidden("10: texts joined by +", tree);
            }
            return super.visitBinary(tree, v);
        }

        void judge() throws Exception {
            most("11: classes", classes, 12);
            for (String name : privateNames) {
                C.dueTrue("1: private " + name + " bears no public name", !publicNames.contains(name));
            }
            Set<String> due = new TreeSet<>();
            Matcher m = Pattern.compile("public ((?:int |long )?\\w+\\([^)]*\\));").matcher(Files.readString(DOCUMENT));
            while (m.find()) {
                due.add(m.group(1));
            }
            C.dueTrue("1: the face is " + due + ", is " + face, due.equals(face) && due.size() == 42);
            Map<String, Integer> known = new HashMap<>();
            Map<String, Integer> groups = groups();
            for (String method : calls.keySet()) {
                most("11: calls from " + method + " deep", depth(groups.get(method), groups, known), 8);
            }
            for (int c : Files.readString(SOURCE).chars().toArray()) {
                if (c < 1 || c > 127) {
                    C.dueTrue("4: sign " + c, false);
                }
            }
        }

        /** Methods that call one another, directly or not, are of one group: a recursion. */
        private Map<String, Integer> groups() {
            Map<String, Set<String>> reach = new HashMap<>();
            for (String from : calls.keySet()) {
                Set<String> all = new HashSet<>();
                Deque<String> open = new ArrayDeque<>(calls.get(from));
                while (!open.isEmpty()) {
                    String next = open.pop();
                    if (all.add(next)) {
                        open.addAll(calls.getOrDefault(next, Set.of()));
                    }
                }
                reach.put(from, all);
            }
            Map<String, Integer> groups = new HashMap<>();
            List<String> names = new ArrayList<>(calls.keySet());
            for (int i = 0; i < names.size(); i++) {
                for (int k = 0; k <= i; k++) {
                    boolean mutual = i == k || reach.get(names.get(i)).contains(names.get(k)) && reach.get(names.get(k)).contains(names.get(i));
                    if (mutual) {
                        groups.putIfAbsent(names.get(i), k);
                    }
                }
            }
            return groups;
        }

        private int depth(int group, Map<String, Integer> groups, Map<String, Integer> known) {
            String key = String.valueOf(group);
            if (known.containsKey(key)) {
                return known.get(key);
            }
            int below = 0;
            for (String method : calls.keySet()) {
                if (groups.get(method) == group) {
                    below = Math.max(below, libraryCalls.containsKey(method) ? 1 : 0);
                    for (String to : calls.get(method)) {
                        Integer other = groups.get(to);
                        if (other != null && other != group) {
                            below = Math.max(below, depth(other, groups, known));
                        }
                    }
                }
            }
            known.put(key, below + 1);
            return below + 1;
        }
    }
}
