import com.sun.source.tree.*;
import com.sun.source.util.*;
import java.io.File;
import java.util.*;
import javax.lang.model.element.*;
import javax.tools.*;

/** What of ../shared/LANGUAGE.md can be read off the source: run from the project's folder. */
public final class LanguageTest {
  private static final Set<String> LIBRARY = Set.of("String.length", "String.charAt", "String.isEmpty", "String.equals", "String.indexOf",
      "String.substring", "String.toCharArray", "Integer.compare", "Math.max", "Math.min", "Math.abs", "Object.<init>");
  /** The private methods that call themselves or one another, each with a depth that is carried. */
  private static final Set<String> RECURSIVE = Set.of("Reader.read", "Reader.readOne", "Reader.readInside", "Acts.from", "Acts.tellsOf",
      "Acts.signalledBet", "Acts.feignedCount");
  private static final int LINES = 60, PARAMETERS = 7, DEEPEST = 8, CLASSES = 12, FIELDS = 20;

  private final Trees trees;
  private final CompilationUnitTree unit;
  private final Map<String, Set<String>> calls = new TreeMap<>();
  private final Set<String> face = new TreeSet<>();
  private final Set<String> others = new TreeSet<>();
  private int classes;

  private LanguageTest(Trees trees, CompilationUnitTree unit) {
    this.trees = trees;
    this.unit = unit;
  }

  public static void main(String[] args) throws Exception {
    JavaCompiler compiler = ToolProvider.getSystemJavaCompiler();
    StandardJavaFileManager files = compiler.getStandardFileManager(null, null, null);
    JavacTask task = (JavacTask) compiler.getTask(null, files, null, List.of("-proc:none"), null,
        files.getJavaFileObjects(new File("src/main/java/CardsGone.java")));
    CompilationUnitTree unit = task.parse().iterator().next();
    task.analyze();
    new LanguageTest(Trees.instance(task), unit).read();
    Due.end();
  }

  private void read() {
    Due.isSo("there is no import, no package", unit.getImports().isEmpty() && unit.getPackageName() == null);
    new Scan().scan(unit, null);
    Due.isSo("classes: " + classes, classes <= CLASSES);
    for (String name : others) Due.isSo(name + " is no name of the face", !face.contains(name));
    for (String method : calls.keySet()) {
      boolean callsItself = reaches(method, method, new HashSet<>());
      Due.isSo(method + " calls itself", !callsItself || RECURSIVE.contains(method));
    }
    for (String method : calls.keySet()) {
      if (method.startsWith("CardsGone.")) Due.isSo(method + " goes " + depth(method), depth(method) <= DEEPEST);
    }
  }

  private boolean reaches(String from, String to, Set<String> seen) {
    for (String next : calls.getOrDefault(from, Set.of())) {
      if (next.equals(to)) return true;
      if (seen.add(next) && reaches(next, to, seen)) return true;
    }
    return false;
  }

  private int depth(String method) {
    int most = 0;
    for (String next : calls.getOrDefault(method, Set.of())) {
      if (!RECURSIVE.contains(next)) most = Math.max(most, depth(next));
    }
    return 1 + most;
  }

  private final class Scan extends TreePathScanner<Void, Void> {
    private String inside = "";

    @Override public Void visitClass(ClassTree tree, Void none) {
      classes++;
      Set<Modifier> modifiers = tree.getModifiers().getFlags();
      boolean top = tree.getSimpleName().contentEquals("CardsGone");
      Due.isSo(tree.getSimpleName() + " is as rules 1 and 2 have it",
          top ? modifiers.equals(Set.of(Modifier.PUBLIC, Modifier.FINAL)) : modifiers.containsAll(Set.of(Modifier.PRIVATE, Modifier.STATIC)));
      int fields = 0;
      for (Tree member : tree.getMembers()) {
        if (member instanceof BlockTree) Due.isSo("an initialiser block", false);
        if (!(member instanceof VariableTree)) continue;
        Set<Modifier> flags = ((VariableTree) member).getModifiers().getFlags();
        if (flags.contains(Modifier.STATIC)) Due.isSo("static fields are final", flags.contains(Modifier.FINAL));
        else fields++;
        Due.isSo(member + " is private, or of the face", flags.contains(Modifier.PRIVATE) || top && flags.contains(Modifier.PUBLIC));
      }
      Due.isSo(tree.getSimpleName() + " has " + fields + " fields", fields <= FIELDS);
      return super.visitClass(tree, none);
    }

    @Override public Void visitMethod(MethodTree tree, Void none) {
      Element element = trees.getElement(getCurrentPath());
      inside = name(element);
      calls.computeIfAbsent(inside, k -> new TreeSet<>());
      boolean isTop = inside.startsWith("CardsGone."), isPublic = tree.getModifiers().getFlags().contains(Modifier.PUBLIC);
      String simple = tree.getName().toString();
      if (!simple.equals("<init>")) (isPublic ? face : others).add(simple);
      Due.isSo(inside + " is of the face or hidden", isTop ? isPublic || tree.getModifiers().getFlags().contains(Modifier.PRIVATE) : !isPublic);
      Due.isSo(inside + " has few parameters", tree.getParameters().size() <= PARAMETERS);
      LineMap lines = unit.getLineMap();
      SourcePositions places = trees.getSourcePositions();
      long end = places.getEndPosition(unit, tree), start = places.getStartPosition(unit, tree);
      if (end > start) Due.isSo(inside + " is short", lines.getLineNumber(end) - lines.getLineNumber(start) < LINES);
      return super.visitMethod(tree, none);
    }

    private String name(Element method) {
      return method.getEnclosingElement().getSimpleName() + "." + method.getSimpleName();
    }

    @Override public Void visitMethodInvocation(MethodInvocationTree tree, Void none) {
      called(trees.getElement(getCurrentPath()));
      return super.visitMethodInvocation(tree, none);
    }

    @Override public Void visitNewClass(NewClassTree tree, Void none) {
      called(trees.getElement(getCurrentPath()));
      isMadeAtFirst(tree);
      return super.visitNewClass(tree, none);
    }

    @Override public Void visitNewArray(NewArrayTree tree, Void none) {
      isMadeAtFirst(tree);
      return super.visitNewArray(tree, none);
    }

    /** All calls of a run live in one room: none of them makes an object. */
    private void isMadeAtFirst(Tree tree) {
      TreePath path = getCurrentPath();
      while (path.getLeaf() != unit && !(path.getLeaf() instanceof MethodTree)) path = path.getParentPath();
      boolean inMethod = path.getLeaf() instanceof MethodTree;
      Due.isSo(tree + " is made by a constructor", !inMethod || ((MethodTree) path.getLeaf()).getName().contentEquals("<init>"));
    }

    private void called(Element method) {
      boolean own = method.toString().startsWith("CardsGone") || method.getEnclosingElement().toString().startsWith("CardsGone");
      if (own) calls.computeIfAbsent(inside, k -> new TreeSet<>()).add(name(method));
      else Due.isSo(name(method) + " is of the library that rule 4 lists", LIBRARY.contains(name(method)));
    }

    @Override public Void visitBinary(BinaryTree tree, Void none) {
      String type = String.valueOf(trees.getTypeMirror(getCurrentPath()));
      Due.isSo("no texts are joined by +", !type.equals("java.lang.String"));
      return super.visitBinary(tree, none);
    }

    private Void no(String what) {
      Due.isSo("no " + what, false);
      return null;
    }

    @Override public Void visitLambdaExpression(LambdaExpressionTree tree, Void none) { return no("lambda"); }
    @Override public Void visitMemberReference(MemberReferenceTree tree, Void none) { return no("method reference"); }
    @Override public Void visitTry(TryTree tree, Void none) { return no("try"); }
    @Override public Void visitThrow(ThrowTree tree, Void none) { return no("throw"); }
    @Override public Void visitSynchronized(SynchronizedTree tree, Void none) { return no("synchronized"); }
    @Override public Void visitAssert(AssertTree tree, Void none) { return no("assert"); }
    @Override public Void visitWhileLoop(WhileLoopTree tree, Void none) { return no("loop without a counter"); }
    @Override public Void visitDoWhileLoop(DoWhileLoopTree tree, Void none) { return no("loop without a counter"); }
  }
}
