import com.sun.source.tree.*;
import com.sun.source.util.JavacTask;
import com.sun.source.util.SourcePositions;
import com.sun.source.util.TreePath;
import com.sun.source.util.TreeScanner;
import com.sun.source.util.Trees;
import java.io.IOException;
import java.nio.file.Files;
import java.nio.file.Path;
import java.util.LinkedHashMap;
import java.util.LinkedHashSet;
import java.util.List;
import java.util.Map;
import java.util.Set;
import java.util.TreeSet;
import java.util.regex.Matcher;
import java.util.regex.Pattern;
import javax.lang.model.element.Element;
import javax.lang.model.element.Modifier;
import javax.tools.JavaCompiler;
import javax.tools.StandardJavaFileManager;
import javax.tools.ToolProvider;

/** What can be seen of LANGUAGE.md in the source itself; stricter than it where the class needs less. */
public final class LanguageRules extends TreeScanner<Void, Void> {
    private static final Set<String> LIBRARY = Set.of("Math.abs", "Math.min", "Math.max", "Integer.compare", "Integer.bitCount",
        "Long.bitCount", "System.arraycopy");
    private static final Set<String> TYPES = Set.of("int", "long", "boolean", "byte", "short", "void");

    private static int wrong = 0;
    private final Set<String> own = new TreeSet<>();
    private final Set<String> publicNames = new TreeSet<>();
    private CompilationUnitTree unit;
    private final Map<Element, Set<Element>> calls = new LinkedHashMap<>();
    private Trees trees;
    private Element caller = null;
    private SourcePositions places;
    private String inMethod = "";

    public static void main(String[] args) throws IOException {
        Path source = Path.of("src/main/java/SixWalls.java");
        JavaCompiler compiler = ToolProvider.getSystemJavaCompiler();
        try (StandardJavaFileManager files = compiler.getStandardFileManager(null, null, null)) {
            JavacTask task = (JavacTask) compiler.getTask(null, files, null, List.of("-proc:none"), null, files.getJavaFileObjects(source));
            LanguageRules rules = new LanguageRules();
            rules.places = Trees.instance(task).getSourcePositions();
            rules.unit = task.parse().iterator().next();
            task.analyze();
            rules.trees = Trees.instance(task);
            rules.look();
            rules.lookAtDepths();
        }
        rulesOfText(Files.readString(source));
        System.out.println(wrong == 0 ? "the rules are kept" : wrong + " places are outside the rules");
        if (wrong != 0) System.exit(1);
    }

    private static void rulesOfText(String text) throws IOException {
        if (!text.chars().allMatch(c -> c < 127)) say("a sign above 126");
        Path doc = Path.of("../shared/DOC.md");
        if (!Files.exists(doc)) return;
        Matcher face = Pattern.compile("(?m)^    (public [^;{]+\\));$").matcher(Files.readString(doc));
        int many = 0;
        while (face.find()) {
            many++;
            if (!text.contains(face.group(1))) say("rule 1: lacks " + face.group(1));
        }
        if (many != 40) say("the document's face has " + many + " lines");
    }

    private static void say(String what) {
        wrong++;
        System.out.println(what);
    }

    private void say(String what, Tree at) {
        say("line " + line(at) + ": " + what);
    }

    private long line(Tree at) {
        return unit.getLineMap().getLineNumber(places.getStartPosition(unit, at));
    }

    private long lines(Tree at) {
        return unit.getLineMap().getLineNumber(places.getEndPosition(unit, at)) - line(at) + 1;
    }

    private void look() {
        if (unit.getTypeDecls().size() != 1 || unit.getPackageName() != null || !unit.getImports().isEmpty()) say("rule 1: one class, no imports");
        ClassTree face = (ClassTree) unit.getTypeDecls().get(0);
        own.add(face.getSimpleName().toString());
        for (Tree member : face.getMembers()) {
            if (member instanceof ClassTree) own.add(((ClassTree) member).getSimpleName().toString());
            if (member instanceof MethodTree && ((MethodTree) member).getModifiers().getFlags().contains(Modifier.PUBLIC)) {
                publicNames.add(((MethodTree) member).getName().toString());
            }
        }
        if (publicNames.size() != 40) say("rule 1: " + publicNames.size() + " public names with the constructor");
        if (own.size() > 12) say("rule 11: " + own.size() + " classes");
        scan(unit, null);
    }

    private void lookAtDepths() {
        for (Element method : calls.keySet()) {
            if (!method.getModifiers().contains(Modifier.PUBLIC)) continue;
            int deep = depth(method, new LinkedHashSet<>());
            if (deep > 8) say("rule 11: " + method + " goes " + deep + " calls deep");
        }
    }

    /** How many of the class's own methods stand open at most from one on, each counted once where it calls itself. */
    private int depth(Element method, Set<Element> open) {
        if (!calls.containsKey(method) || !open.add(method)) return 0;
        int most = 0;
        for (Element called : calls.get(method)) most = Math.max(most, depth(called, open));
        open.remove(method);
        return most + 1;
    }

    @Override
    public Void visitClass(ClassTree c, Void v) {
        Set<Modifier> flags = c.getModifiers().getFlags();
        boolean outer = c.getSimpleName().contentEquals("SixWalls");
        if (outer ? !flags.equals(Set.of(Modifier.PUBLIC, Modifier.FINAL)) : !flags.contains(Modifier.STATIC)) say("rule 1, 2: " + flags, c);
        if (!inMethod.isEmpty()) say("rule 2: a class in a method", c);
        int fields = 0;
        for (Tree member : c.getMembers()) {
            if (member instanceof BlockTree) say("rule 5: a block", member);
            if (member instanceof VariableTree && !((VariableTree) member).getModifiers().getFlags().contains(Modifier.STATIC)) fields++;
            if (outer) faceMember(member);
            else if (member instanceof MethodTree && publicNames.contains(((MethodTree) member).getName().toString())
                && ((MethodTree) member).getModifiers().getFlags().contains(Modifier.PRIVATE)
                && !((MethodTree) member).getName().contentEquals("<init>")) say("rule 1: a private method of a public name", member);
        }
        if (fields > 20) say("rule 11: " + fields + " fields", c);
        return super.visitClass(c, v);
    }

    private void faceMember(Tree member) {
        Set<Modifier> flags = member instanceof ClassTree ? ((ClassTree) member).getModifiers().getFlags()
            : member instanceof MethodTree ? ((MethodTree) member).getModifiers().getFlags()
            : ((VariableTree) member).getModifiers().getFlags();
        if (!flags.contains(Modifier.PRIVATE) && !flags.contains(Modifier.PUBLIC)) say("rule 1: neither public nor private", member);
        if (member instanceof MethodTree && flags.contains(Modifier.PRIVATE)
            && publicNames.contains(((MethodTree) member).getName().toString())) say("rule 1: a private method of a public name", member);
    }

    @Override
    public Void visitMethod(MethodTree m, Void v) {
        if (m.getParameters().size() > 7) say("rule 11: parameters", m);
        if (lines(m) > 60) say("rule 11: " + lines(m) + " lines", m);
        inMethod = m.getName().toString();
        caller = trees.getElement(TreePath.getPath(unit, m));
        calls.put(caller, new LinkedHashSet<>());
        super.visitMethod(m, v);
        inMethod = "";
        caller = null;
        return null;
    }

    @Override
    public Void visitVariable(VariableTree t, Void v) {
        Set<Modifier> flags = t.getModifiers().getFlags();
        if (flags.contains(Modifier.STATIC) && !flags.contains(Modifier.FINAL)) say("rule 5: static, not final", t);
        String type = String.valueOf(t.getType()).replace("[]", "");
        if (!TYPES.contains(type) && !own.contains(type)) say("rule 3: " + type, t);
        return super.visitVariable(t, v);
    }

    @Override
    public Void visitMethodInvocation(MethodInvocationTree t, Void v) {
        String called = t.getMethodSelect().toString();
        if (Character.isUpperCase(called.charAt(0)) && !LIBRARY.contains(called)) say("rule 4: " + called, t);
        if (caller != null) calls.get(caller).add(trees.getElement(TreePath.getPath(unit, t.getMethodSelect())));
        return super.visitMethodInvocation(t, v);
    }

    @Override
    public Void visitLiteral(LiteralTree t, Void v) {
        if (t.getKind() == Tree.Kind.STRING_LITERAL || t.getKind() == Tree.Kind.DOUBLE_LITERAL) say("no texts, no doubles are needed", t);
        return super.visitLiteral(t, v);
    }

    @Override
    public Void visitForLoop(ForLoopTree t, Void v) {
        if (t.getCondition() == null) say("rule 9: no bound", t);
        return super.visitForLoop(t, v);
    }

    private void madeInMethod(Tree t) {
        if (!inMethod.isEmpty()) say("rule 12: all that the class needs is made with it", t);
    }

    @Override public Void visitNewArray(NewArrayTree t, Void v) { madeInMethod(t); return super.visitNewArray(t, v); }
    @Override public Void visitNewClass(NewClassTree t, Void v) { madeInMethod(t); return super.visitNewClass(t, v); }
    @Override public Void visitWhileLoop(WhileLoopTree t, Void v) { say("rule 9: its bound can't be seen here", t); return null; }
    @Override public Void visitDoWhileLoop(DoWhileLoopTree t, Void v) { say("rule 9: its bound can't be seen here", t); return null; }
    @Override public Void visitThrow(ThrowTree t, Void v) { say("rule 6", t); return null; }
    @Override public Void visitTry(TryTree t, Void v) { say("rule 6", t); return null; }
    @Override public Void visitSynchronized(SynchronizedTree t, Void v) { say("rule 6", t); return null; }
    @Override public Void visitAssert(AssertTree t, Void v) { say("rule 6", t); return null; }
    @Override public Void visitLambdaExpression(LambdaExpressionTree t, Void v) { say("rule 2", t); return null; }
    @Override public Void visitMemberReference(MemberReferenceTree t, Void v) { say("rule 2", t); return null; }
    @Override public Void visitSwitchExpression(SwitchExpressionTree t, Void v) { say("rule 6", t); return null; }
    @Override public Void visitInstanceOf(InstanceOfTree t, Void v) { say("no casts are needed", t); return null; }
}
