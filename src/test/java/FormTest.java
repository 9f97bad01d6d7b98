import com.sun.source.tree.AssertTree;
import com.sun.source.tree.ClassTree;
import com.sun.source.tree.CompilationUnitTree;
import com.sun.source.tree.ForLoopTree;
import com.sun.source.tree.ImportTree;
import com.sun.source.tree.LambdaExpressionTree;
import com.sun.source.tree.MemberReferenceTree;
import com.sun.source.tree.MemberSelectTree;
import com.sun.source.tree.MethodInvocationTree;
import com.sun.source.tree.MethodTree;
import com.sun.source.tree.NewArrayTree;
import com.sun.source.tree.NewClassTree;
import com.sun.source.tree.SynchronizedTree;
import com.sun.source.tree.ThrowTree;
import com.sun.source.tree.Tree;
import com.sun.source.tree.TryTree;
import com.sun.source.tree.VariableTree;
import com.sun.source.tree.BlockTree;
import com.sun.source.util.JavacTask;
import com.sun.source.util.SourcePositions;
import com.sun.source.util.TreeScanner;
import com.sun.source.util.Trees;
import java.io.File;
import java.lang.reflect.Method;
import java.lang.reflect.Modifier;
import java.nio.file.Files;
import java.nio.file.Path;
import java.util.ArrayDeque;
import java.util.ArrayList;
import java.util.Deque;
import java.util.List;
import java.util.Map;
import java.util.Set;
import java.util.TreeMap;
import java.util.TreeSet;
import java.util.regex.Matcher;
import java.util.regex.Pattern;
import javax.tools.JavaCompiler;
import javax.tools.StandardJavaFileManager;
import javax.tools.ToolProvider;

/** The rules of LANGUAGE.md as far as they can be seen in the source, and the document's face. */
public final class FormTest {
    private static final Due DUE = new Due();
    private static final Set<String> LIBRARY = Set.of("Math.max", "Math.min", "Math.abs", "Integer.bitCount",
        "System.arraycopy", "Arrays.fill", "NAMES.indexOf");
    private static final Set<String> CONSTANTS = Set.of("int", "long", "boolean", "char", "String", "int[]", "long[]", "char[]", "byte[]");

    public static void main(String[] args) throws Exception {
        String named = System.getenv("SLIPWEEKS_SOURCE");
        File source = new File(named == null ? "src/main/java/SlipWeeks.java" : named);
        JavaCompiler compiler = ToolProvider.getSystemJavaCompiler();
        StandardJavaFileManager files = compiler.getStandardFileManager(null, null, null);
        JavacTask task = (JavacTask) compiler.getTask(null, files, null, null, null, files.getJavaFileObjects(source));
        CompilationUnitTree unit = task.parse().iterator().next();
        ok("no package", unit.getPackageName() == null);
        ok("one class", unit.getTypeDecls().size() == 1);
        for (ImportTree one : unit.getImports()) {
            ok("import " + one.getQualifiedIdentifier(), one.getQualifiedIdentifier().toString().equals("java.util.Arrays"));
        }
        Rules rules = new Rules(unit, Trees.instance(task).getSourcePositions());
        rules.scan(unit, null);
        depths(rules.calls);
        String doc = Files.readString(Path.of("../shared/DOC.md"));
        String text = Files.readString(source.toPath());
        face(doc);
        headings(doc, text);
        signs(text);
        DUE.end();
    }

    private static void ok(String what, boolean holds) {
        DUE.is(what, holds ? 1 : 0, 1);
    }

    private static void signs(String source) {
        for (int i = 0; i < source.length(); i++) {
            if (source.charAt(i) > 126) {
                ok("sign " + i + " of the source", false);
            }
        }
    }

    /** How many calls stand open at once at the most; a ring of calls (the liking's recursion) counts once each. */
    private static void depths(Map<String, Set<String>> calls) {
        for (String name : calls.keySet()) {
            int deep = depth(calls, name, new TreeSet<>());
            ok(name + " goes " + deep + " deep", deep <= 8);
        }
    }

    private static int depth(Map<String, Set<String>> calls, String name, Set<String> open) {
        int deepest = 0;
        open.add(name);
        for (String next : calls.getOrDefault(name, Set.of())) {
            if (!open.contains(next)) {
                deepest = Math.max(deepest, depth(calls, next, open));
            }
        }
        open.remove(name);
        return deepest + 1;
    }

    private static String shortName(String type) {
        return type.substring(type.lastIndexOf('.') + 1);
    }

    /** The public members are the document's, to the letter. */
    private static void face(String doc) {
        Set<String> due = new TreeSet<>();
        String block = doc.substring(doc.indexOf("public final class SlipWeeks {"));
        block = block.substring(0, block.indexOf("```"));
        for (String line : block.split("\n")) {
            String t = line.trim();
            if (t.startsWith("public ") && t.endsWith(");") && !t.startsWith("public SlipWeeks(")) {
                due.add(t.substring(7, t.length() - 2).replaceAll("(int|long) [a-z]+(,|$)", "$1$2"));
            }
        }
        Set<String> got = new TreeSet<>();
        for (Method m : SlipWeeks.class.getDeclaredMethods()) {
            if (Modifier.isPrivate(m.getModifiers())) {
                ok("private " + m.getName() + " has no public name", due.stream().noneMatch(d -> d.contains(" " + m.getName() + "(")));
                continue;
            }
            StringBuilder b = new StringBuilder(shortName(m.getReturnType().getName())).append(' ').append(m.getName()).append('(');
            for (int i = 0; i < m.getParameterCount(); i++) {
                b.append(i > 0 ? ", " : "").append(m.getParameterTypes()[i].getName());
            }
            got.add(b.toString());
        }
        ok("41 methods in the document", due.size() == 41);
        ok("the face is " + due + ", the class has " + got, due.equals(got));
        ok("no other field can be seen", SlipWeeks.class.getFields().length == 0);
    }

    /** The calls stand in the document's order, and ahead of them what the interface says there. */
    private static void headings(String doc, String source) {
        List<String> due = new ArrayList<>();
        Matcher said = Pattern.compile("(?m)^Ahead of the calls (.*) the interface says: (.*)\\.$").matcher(doc);
        while (said.find()) {
            due.add(said.group(2));
            for (String name : said.group(1).split(", ")) {
                due.add(name.replace("`", ""));
            }
        }
        List<String> got = new ArrayList<>();
        Matcher line = Pattern.compile("(?m)^    (?:// (----.*)|public \\w+ (\\w+)\\(.*)$").matcher(source);
        while (line.find()) {
            got.add(line.group(1) != null ? line.group(1) : line.group(2));
        }
        ok("7 headings and 41 calls in the document", due.size() == 48);
        ok("the document's order is " + due + ", the class has " + got, due.equals(got));
    }

    private static final class Rules extends TreeScanner<Void, Void> {
        private final CompilationUnitTree unit;
        private final SourcePositions positions;
        private final Deque<String> inside = new ArrayDeque<>();
        private final Set<String> faceNames = new TreeSet<>();
        private final Map<String, Set<String>> calls = new TreeMap<>();
        private String method = "";
        private int classes;

        Rules(CompilationUnitTree unit, SourcePositions positions) {
            this.unit = unit;
            this.positions = positions;
            for (Method m : SlipWeeks.class.getMethods()) {
                faceNames.add(m.getName());
            }
        }

        private long lines(Tree t) {
            return unit.getLineMap().getLineNumber(positions.getEndPosition(unit, t))
                - unit.getLineMap().getLineNumber(positions.getStartPosition(unit, t)) + 1;
        }

        @Override
        public Void visitClass(ClassTree c, Void v) {
            String name = c.getSimpleName().toString();
            classes++;
            ok(name + " is not the 13th class", classes <= 13);
            Set<javax.lang.model.element.Modifier> flags = c.getModifiers().getFlags();
            boolean top = inside.isEmpty();
            ok(name + " is as open as it may be", top
                ? flags.contains(javax.lang.model.element.Modifier.PUBLIC) && flags.contains(javax.lang.model.element.Modifier.FINAL)
                : flags.contains(javax.lang.model.element.Modifier.STATIC) && flags.contains(javax.lang.model.element.Modifier.PRIVATE));
            int fields = 0;
            for (Tree member : c.getMembers()) {
                if (member instanceof BlockTree) {
                    ok(name + " has no initialiser block", false);
                } else if (member instanceof VariableTree) {
                    fields += field(name, (VariableTree) member, top);
                }
            }
            ok(name + " has " + fields + " fields", fields <= 20);
            inside.push(name);
            super.visitClass(c, v);
            inside.pop();
            return null;
        }

        private int field(String owner, VariableTree f, boolean top) {
            Set<javax.lang.model.element.Modifier> flags = f.getModifiers().getFlags();
            String name = owner + "." + f.getName();
            ok(name + " is private", !top || flags.contains(javax.lang.model.element.Modifier.PRIVATE));
            ok(name + " is not public", !flags.contains(javax.lang.model.element.Modifier.PUBLIC));
            if (!flags.contains(javax.lang.model.element.Modifier.STATIC)) {
                return 1;
            }
            ok(name + " is final", flags.contains(javax.lang.model.element.Modifier.FINAL));
            ok(name + " is a constant's type", CONSTANTS.contains(f.getType().toString()));
            boolean writtenOut = !(f.getInitializer() instanceof NewArrayTree)
                || ((NewArrayTree) f.getInitializer()).getInitializers() != null;
            ok(name + " is written out", f.getInitializer() != null && writtenOut);
            return 0;
        }

        @Override
        public Void visitMethod(MethodTree m, Void v) {
            String name = inside.peek() + "." + m.getName();
            ok(name + " takes " + m.getParameters().size(), m.getParameters().size() <= 7);
            ok(name + " has " + lines(m) + " lines", lines(m) <= 60);
            if (inside.size() > 1) {
                ok(name + " has no name of the face", !faceNames.contains(m.getName().toString()));
            }
            method = m.getName().toString();
            calls.putIfAbsent(method, new TreeSet<>());
            return super.visitMethod(m, v);
        }

        @Override
        public Void visitMethodInvocation(MethodInvocationTree call, Void v) {
            String whole = call.getMethodSelect().toString();
            calls.computeIfAbsent(method, k -> new TreeSet<>()).add(whole.substring(whole.lastIndexOf('.') + 1));
            if (call.getMethodSelect() instanceof MemberSelectTree) {
                MemberSelectTree s = (MemberSelectTree) call.getMethodSelect();
                String to = s.getExpression().toString();
                boolean own = !Character.isUpperCase(to.charAt(0)) || to.equals("Slip") || to.equals("Sheet") || to.equals("LikingReader");
                ok("call of " + s, own || LIBRARY.contains(s.toString()));
            }
            return super.visitMethodInvocation(call, v);
        }

        @Override
        public Void visitForLoop(ForLoopTree loop, Void v) {
            ok("a loop has an end", loop.getCondition() != null);
            return super.visitForLoop(loop, v);
        }

        @Override
        public Void visitNewClass(NewClassTree made, Void v) {
            ok("new " + made.getIdentifier() + " has no body", made.getClassBody() == null);
            return super.visitNewClass(made, v);
        }

        @Override
        public Void visitThrow(ThrowTree t, Void v) {
            ok("no throw", false);
            return null;
        }

        @Override
        public Void visitTry(TryTree t, Void v) {
            ok("no try", false);
            return null;
        }

        @Override
        public Void visitAssert(AssertTree t, Void v) {
            ok("no assert", false);
            return null;
        }

        @Override
        public Void visitSynchronized(SynchronizedTree t, Void v) {
            ok("no synchronized", false);
            return null;
        }

        @Override
        public Void visitLambdaExpression(LambdaExpressionTree t, Void v) {
            ok("no lambda", false);
            return null;
        }

        @Override
        public Void visitMemberReference(MemberReferenceTree t, Void v) {
            ok("no method reference", false);
            return null;
        }
    }
}
