import com.sun.source.tree.*;
import com.sun.source.util.*;
import java.nio.file.Files;
import java.nio.file.Path;
import java.util.*;
import java.util.regex.Matcher;
import java.util.regex.Pattern;
import javax.lang.model.element.*;
import javax.tools.*;

/** The rules of LANGUAGE.md that a program can look at, asked of the source by the compiler's own trees. */
public final class LanguageTest {
    private static final Path SOURCE = Path.of("src/main/java/HalfNumber.java");
    private static final Due DUE = new Due("LanguageTest");
    private static final Set<String> LIBRARY = Set.of("Arrays.fill", "System.arraycopy", "Math.min", "Math.max", "Math.abs", "Integer.bitCount",
        "String.length", "String.charAt");
    private static final Set<String> FACE = Set.of("int feed(long)", "int end(int)", "int road()", "int fault()", "int rule(int)", "int mixed(int,int)",
        "int setClock(int)", "int line(int,int,int,int)", "int drop(int,int)", "int of(int,int,int)", "int sign(int,int,int,int)", "int took(int,int)",
        "int cost(int,int)", "int why(int,int)", "long best(int)", "int first(int)", "int sure(int,int)", "long share(int,int,int)",
        "int ifMust(int,int,boolean)", "int alone(int,int)", "int many(int)", "long ways(int)", "int tell(int,int)", "int adopt()", "int judge(int)",
        "int prices(int,int,int,int)", "int times(int)", "int clock(int)", "int passed(int)", "int reads(int,int)", "int blame(int)", "int learn(int)",
        "int enough(int)", "int round(int,int,int)", "int cars(int,int)", "int keep(int)", "int back(int)", "int sheet(int,int,int)", "int lay(int,int,int)",
        "int read(int,int,int,int,int)", "int torn()", "int count(int)");

    private static final Map<Element, Set<Element>> CALLS = new LinkedHashMap<>();
    private static final Map<Element, Integer> DEPTHS = new HashMap<>();

    public static void main(String[] args) throws Exception {
        face();
        words();
        JavaCompiler compiler = ToolProvider.getSystemJavaCompiler();
        StandardJavaFileManager files = compiler.getStandardFileManager(null, null, null);
        JavacTask task = (JavacTask) compiler.getTask(null, files, null, List.of("-proc:none"), null, files.getJavaFileObjects(SOURCE));
        CompilationUnitTree unit = task.parse().iterator().next();
        task.analyze();
        new Reader(Trees.instance(task), unit).scan(unit, null);
        for (Element method : new ArrayList<>(CALLS.keySet())) {
            int depth = depthOf(method, new ArrayDeque<>());
            if (method.getModifiers().contains(Modifier.PUBLIC)) DUE.holds(method + " calls " + depth + " deep", depth <= 8);
        }
        DUE.close();
    }

    private static void face() {
        Set<String> found = new HashSet<>();
        for (java.lang.reflect.Method m : HalfNumber.class.getDeclaredMethods()) {
            int how = m.getModifiers();
            if (java.lang.reflect.Modifier.isPrivate(how)) continue;
            StringJoiner types = new StringJoiner(",", "(", ")");
            for (Class<?> type : m.getParameterTypes()) types.add(type.getName());
            found.add(m.getReturnType().getName() + " " + m.getName() + types);
            DUE.holds(m + " is public", java.lang.reflect.Modifier.isPublic(how) && !java.lang.reflect.Modifier.isStatic(how));
        }
        DUE.holds("the face: " + found, found.equals(FACE));
        for (java.lang.reflect.Method m : HalfNumber.class.getDeclaredMethods()) {
            boolean hidden = java.lang.reflect.Modifier.isPrivate(m.getModifiers());
            DUE.holds(m.getName() + " bears no public name", !hidden || FACE.stream().noneMatch(f -> f.contains(" " + m.getName() + "(")));
        }
        Set<String> constants = new HashSet<>();
        for (java.lang.reflect.Field f : HalfNumber.class.getDeclaredFields()) {
            if (!java.lang.reflect.Modifier.isPrivate(f.getModifiers())) constants.add(f.toString());
        }
        Set<String> due = new HashSet<>();
        for (String name : List.of("BAD", "STATE", "FULL", "NONE")) due.add("public static final int HalfNumber." + name);
        DUE.holds("the constants: " + constants, constants.equals(due));
        DUE.is("constructors", HalfNumber.class.getConstructors().length, 1);
        DUE.holds("final", java.lang.reflect.Modifier.isFinal(HalfNumber.class.getModifiers()));
        DUE.is("BAD", HalfNumber.BAD, -1);
        DUE.is("STATE", HalfNumber.STATE, -2);
        DUE.is("FULL", HalfNumber.FULL, -3);
        DUE.is("NONE", HalfNumber.NONE, -4);
    }

    private static void words() throws Exception {
        String source = Files.readString(SOURCE);
        DUE.holds("signs of the source are 1 to 127", source.chars().allMatch(c -> c > 0 && c < 128));
        String bare = source.replaceAll("(?s)/\\*.*?\\*/", "").replaceAll("//[^\n]*", "").replaceAll("\"[^\"\n]*\"", "\"\"");
        Matcher m = Pattern.compile("\\b(throw|throws|try|catch|synchronized|assert|package|protected|instanceof|record|enum|interface|double|float|native|volatile)\\b|->|::|Exact").matcher(bare);
        while (m.find()) DUE.holds("no word '" + m.group() + "'", false);
        Matcher imports = Pattern.compile("import\\s+([^;]+);").matcher(bare);
        while (imports.find()) DUE.holds("import " + imports.group(1), imports.group(1).equals("java.util.Arrays"));
    }

    /** How many calls stand open at once; a method that comes to itself again is told as a fault. */
    private static int depthOf(Element method, Deque<Element> open) {
        if (DEPTHS.containsKey(method)) return DEPTHS.get(method);
        if (open.contains(method)) {
            DUE.holds("no recursion in " + method, false);
            return 1000;
        }
        open.push(method);
        int deepest = 0;
        for (Element called : CALLS.getOrDefault(method, Set.of())) deepest = Math.max(deepest, depthOf(called, open));
        open.pop();
        DEPTHS.put(method, deepest + 1);
        return deepest + 1;
    }

    private static final class Reader extends TreePathScanner<Void, Void> {
        private final Trees trees;
        private final CompilationUnitTree unit;
        private Element method;
        private int classes = 0;

        Reader(Trees trees, CompilationUnitTree unit) {
            this.trees = trees;
            this.unit = unit;
        }

        private long linesOf(Tree tree) {
            LineMap lines = unit.getLineMap();
            SourcePositions at = trees.getSourcePositions();
            return lines.getLineNumber(at.getEndPosition(unit, tree)) - lines.getLineNumber(at.getStartPosition(unit, tree)) + 1;
        }

        private static boolean isOwn(Element e) {
            Element top = e;
            while (top.getEnclosingElement().getKind() != ElementKind.PACKAGE) top = top.getEnclosingElement();
            return top.getSimpleName().contentEquals("HalfNumber");
        }

        @Override
        public Void visitClass(ClassTree tree, Void none) {
            classes++;
            DUE.holds(tree.getSimpleName() + " is no more than the twelfth class", classes <= 12);
            boolean nested = classes > 1;
            DUE.holds(tree.getSimpleName() + " is static", !nested || tree.getModifiers().getFlags().contains(Modifier.STATIC));
            int fields = 0;
            for (Tree member : tree.getMembers()) {
                DUE.holds("no initialiser block", member.getKind() != Tree.Kind.BLOCK);
                if (member instanceof VariableTree && !((VariableTree) member).getModifiers().getFlags().contains(Modifier.STATIC)) fields++;
            }
            DUE.holds(tree.getSimpleName() + " has " + fields + " fields", fields <= 20);
            return super.visitClass(tree, none);
        }

        @Override
        public Void visitVariable(VariableTree tree, Void none) {
            if (tree.getModifiers().getFlags().contains(Modifier.STATIC)) {
                DUE.holds(tree.getName() + " is final", tree.getModifiers().getFlags().contains(Modifier.FINAL));
                DUE.holds(tree.getName() + " is a number or a row of them", Set.of("int", "long", "int[]").contains(tree.getType().toString()));
            }
            return super.visitVariable(tree, none);
        }

        @Override
        public Void visitMethod(MethodTree tree, Void none) {
            Element outer = method;
            method = trees.getElement(getCurrentPath());
            CALLS.put(method, new LinkedHashSet<>());
            DUE.holds(method + " has " + linesOf(tree) + " lines", linesOf(tree) <= 60);
            DUE.holds(method + " takes at most seven", tree.getParameters().size() <= 7);
            super.visitMethod(tree, none);
            method = outer;
            return null;
        }

        @Override
        public Void visitMethodInvocation(MethodInvocationTree tree, Void none) {
            Element called = trees.getElement(new TreePath(getCurrentPath(), tree.getMethodSelect()));
            if (called.getKind() == ElementKind.METHOD) {
                CALLS.get(method).add(called);
                if (!isOwn(called)) {
                    String name = called.getEnclosingElement().getSimpleName() + "." + called.getSimpleName();
                    DUE.holds("the library has " + name, LIBRARY.contains(name));
                    DUE.holds("fill of numbers alone", !called.toString().startsWith("fill(boolean[]"));
                }
            }
            return super.visitMethodInvocation(tree, none);
        }

        @Override
        public Void visitNewClass(NewClassTree tree, Void none) {
            Element made = trees.getElement(getCurrentPath());
            DUE.holds("own classes alone are made", isOwn(made));
            if (method != null) CALLS.get(method).add(made);
            return super.visitNewClass(tree, none);
        }

        @Override
        public Void visitMemberSelect(MemberSelectTree tree, Void none) {
            Element e = trees.getElement(getCurrentPath());
            boolean foreignField = e != null && e.getKind() == ElementKind.FIELD && !e.getSimpleName().contentEquals("length") && !isOwn(e);
            DUE.holds("no field of the library: " + tree, !foreignField);
            return super.visitMemberSelect(tree, none);
        }
    }
}
