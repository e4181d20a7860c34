import com.sun.source.tree.ArrayAccessTree;
import com.sun.source.tree.AssignmentTree;
import com.sun.source.tree.BinaryTree;
import com.sun.source.tree.BlockTree;
import com.sun.source.tree.ClassTree;
import com.sun.source.tree.CompilationUnitTree;
import com.sun.source.tree.CompoundAssignmentTree;
import com.sun.source.tree.ExpressionTree;
import com.sun.source.tree.ForLoopTree;
import com.sun.source.tree.MethodInvocationTree;
import com.sun.source.tree.MethodTree;
import com.sun.source.tree.NewArrayTree;
import com.sun.source.tree.NewClassTree;
import com.sun.source.tree.Tree;
import com.sun.source.tree.TypeCastTree;
import com.sun.source.tree.UnaryTree;
import com.sun.source.tree.VariableTree;
import com.sun.source.tree.WhileLoopTree;
import com.sun.source.util.JavacTask;
import com.sun.source.util.TreePath;
import com.sun.source.util.TreePathScanner;
import com.sun.source.util.Trees;
import java.nio.file.Path;
import java.util.HashSet;
import java.util.LinkedHashMap;
import java.util.LinkedHashSet;
import java.util.List;
import java.util.Map;
import java.util.Set;
import java.util.TreeSet;
import javax.lang.model.element.Element;
import javax.lang.model.element.ElementKind;
import javax.lang.model.element.ExecutableElement;
import javax.lang.model.element.Modifier;
import javax.lang.model.type.TypeMirror;
import javax.tools.JavaCompiler;
import javax.tools.StandardJavaFileManager;
import javax.tools.ToolProvider;

/** The rules of LANGUAGE.md that can be read off the source, each by its number, from the compiler's own tree of it. */
public final class LanguageTests {
  private static final Path SOURCE = Path.of("src/main/java/HiddenSteps.java");
  private static final String FACE = "HiddenSteps";

  private static final int MOST_PARAMETERS = 7;
  private static final int MOST_LINES = 60;
  private static final int MOST_DEEP = 8;
  private static final int MOST_CLASSES = 12;
  private static final int MOST_FIELDS = 20;

  /** What is called of the library, a part of what rule 4 allows. */
  private static final Set<String> LIBRARY = Set.of("java.lang.Math.min", "java.lang.Math.max", "java.lang.System.arraycopy",
      "java.lang.Object.<init>");
  private static final String NUMBERS = "int|long|short|byte|char|boolean";

  /** What must not stand in the source, by the rule that says so, or may be wrong there and is not needed. */
  private static final Map<Tree.Kind, Integer> NEVER = Map.of(Tree.Kind.LAMBDA_EXPRESSION, 2, Tree.Kind.MEMBER_REFERENCE, 2,
      Tree.Kind.DOUBLE_LITERAL, 3, Tree.Kind.FLOAT_LITERAL, 3, Tree.Kind.THROW, 6, Tree.Kind.TRY, 6, Tree.Kind.SYNCHRONIZED, 6,
      Tree.Kind.ASSERT, 6, Tree.Kind.INSTANCE_OF, 6, Tree.Kind.DO_WHILE_LOOP, 9);

  private static void rule(int number, String words, Object got, Object want) {
    Check.sentence("rule " + number);
    Check.due(words, got, want);
  }

  private static void never(int number, String what, Tree tree) {
    rule(number, what + ": " + tree, true, false);
  }

  // ---- what is read ----

  private static final class Reader extends TreePathScanner<Void, Void> {
    final Trees trees;
    final CompilationUnitTree unit;
    final Map<String, Set<String>> calls = new LinkedHashMap<>();
    final Set<String> publicMethods = new TreeSet<>();
    final Set<String> otherMethods = new TreeSet<>();
    final Map<String, Integer> fields = new LinkedHashMap<>();
    private String method = "";

    Reader(Trees trees, CompilationUnitTree unit) {
      this.trees = trees;
      this.unit = unit;
    }

    private Element element(Tree tree) {
      return trees.getElement(new TreePath(getCurrentPath(), tree));
    }

    private static String fullName(Element of) {
      return of.getEnclosingElement() + "." + (of.getKind() == ElementKind.CONSTRUCTOR ? "<init>" : of.toString());
    }

    private static boolean isOwn(Element of) {
      return isOwn(of.getEnclosingElement().toString());
    }

    private static boolean isOwn(String type) {
      return type.equals(FACE) || type.startsWith(FACE + ".");
    }

    private long line(long position) {
      return unit.getLineMap().getLineNumber(position);
    }

    // ---- classes ----

    @Override
    public Void visitClass(ClassTree tree, Void none) {
      String name = tree.getSimpleName().toString();
      Set<Modifier> modifiers = tree.getModifiers().getFlags();
      fields.put(name, 0);
      if (getCurrentPath().getParentPath().getLeaf() instanceof ClassTree) {
        rule(2, name + " is static", modifiers.contains(Modifier.STATIC) || tree.getKind() != Tree.Kind.CLASS, true);
        rule(1, name + " is public or protected", modifiers.contains(Modifier.PUBLIC) || modifiers.contains(Modifier.PROTECTED), false);
      } else {
        rule(1, "the one class of the file", name, FACE);
        rule(1, name + " is", modifiers, Set.of(Modifier.PUBLIC, Modifier.FINAL));
        rule(2, name + " is local", getCurrentPath().getParentPath().getLeaf() instanceof CompilationUnitTree, true);
      }
      return super.visitClass(tree, none);
    }

    @Override
    public Void visitBlock(BlockTree tree, Void none) {
      if (getCurrentPath().getParentPath().getLeaf() instanceof ClassTree) never(5, "a block that initialises", tree);
      return super.visitBlock(tree, none);
    }

    @Override
    public Void visitVariable(VariableTree tree, Void none) {
      TypeMirror type = trees.getTypeMirror(getCurrentPath());
      rule(3, "the type " + type + " of " + tree.getName() + " is allowed", isAllowed(type.toString()), true);
      Tree parent = getCurrentPath().getParentPath().getLeaf();
      if (parent instanceof ClassTree) {
        String owner = ((ClassTree) parent).getSimpleName().toString();
        if (tree.getModifiers().getFlags().contains(Modifier.STATIC)) readConstant(tree, type.toString());
        else fields.merge(owner, 1, Integer::sum);
      }
      return super.visitVariable(tree, none);
    }

    private static boolean isAllowed(String type) {
      if (type.matches("(" + NUMBERS + ")(\\[\\]){0,2}")) return true;
      String single = type.replaceFirst("\\[\\]$", "");
      return isOwn(single) && !single.contains("[");
    }

    private void readConstant(VariableTree tree, String type) {
      rule(5, tree.getName() + " is final", tree.getModifiers().getFlags().contains(Modifier.FINAL), true);
      if (type.endsWith("[]")) {
        rule(5, tree.getName() + " is of numbers", type.matches("(int|long|char|byte)\\[\\]"), true);
        ExpressionTree made = tree.getInitializer();
        rule(5, tree.getName() + " is written out", made instanceof NewArrayTree && ((NewArrayTree) made).getInitializers() != null, true);
      } else {
        rule(5, tree.getName() + " is a constant", type.matches("int|long|boolean|char|java.lang.String"), true);
      }
    }

    // ---- methods ----

    @Override
    public Void visitMethod(MethodTree tree, Void none) {
      ExecutableElement of = (ExecutableElement) trees.getElement(getCurrentPath());
      String before = method;
      method = fullName(of);
      calls.put(method, new LinkedHashSet<>());
      boolean open = of.getModifiers().contains(Modifier.PUBLIC);
      if (of.getKind() == ElementKind.METHOD) (open ? publicMethods : otherMethods).add(tree.getName().toString());
      rule(1, method + " is of the face", open, of.getEnclosingElement().toString().equals(FACE) && isOpen(of));
      rule(6, method + " has a name of its own", Set.of("equals", "hashCode", "toString").contains(tree.getName().toString()), false);
      rule(11, method + " has few parameters", tree.getParameters().size() <= MOST_PARAMETERS, true);
      long lines = line(trees.getSourcePositions().getEndPosition(unit, tree)) - line(trees.getSourcePositions().getStartPosition(unit, tree)) + 1;
      rule(11, method + " is short", lines <= MOST_LINES, true);
      if (tree.getReturnType() != null && of.getKind() == ElementKind.METHOD) {
        String type = of.getReturnType().toString();
        rule(3, "the type " + type + " of " + method + " is allowed", type.equals("void") || isAllowed(type), true);
      }
      super.visitMethod(tree, none);
      method = before;
      return null;
    }

    /** Not private; of the face's own members none is package-visible or protected then. */
    private static boolean isOpen(Element of) {
      return !of.getModifiers().contains(Modifier.PRIVATE);
    }

    @Override
    public Void visitMethodInvocation(MethodInvocationTree tree, Void none) {
      call(element(tree));
      return super.visitMethodInvocation(tree, none);
    }

    @Override
    public Void visitNewClass(NewClassTree tree, Void none) {
      if (tree.getClassBody() != null) never(2, "a class without a name", tree);
      call(element(tree));
      return super.visitNewClass(tree, none);
    }

    private void call(Element of) {
      String name = fullName(of).replaceFirst("\\([^()]*\\)$", "");
      if (!isOwn(of)) rule(4, name + " is of the library", LIBRARY.contains(name), true);
      calls.get(method).add(fullName(of));
      if (method.endsWith("<init>") && isOwn(of)) rule(12, name + " may stand in a constructor", isFixed(of), true);
    }

    private static boolean isFixed(Element of) {
      Set<Modifier> modifiers = of.getModifiers();
      return of.getKind() == ElementKind.CONSTRUCTOR || modifiers.contains(Modifier.STATIC) || modifiers.contains(Modifier.PRIVATE)
          || of.getEnclosingElement().getModifiers().contains(Modifier.FINAL);
    }

    // ---- what must not stand there ----

    @Override
    public Void scan(Tree tree, Void none) {
      Integer rule = tree == null ? null : NEVER.get(tree.getKind());
      if (rule != null) never(rule, tree.getKind().toString(), tree);
      return super.scan(tree, none);
    }

    @Override
    public Void visitTypeCast(TypeCastTree tree, Void none) {
      rule(6, "a cast among numbers: " + tree, tree.getType().toString().matches(NUMBERS), true);
      return super.visitTypeCast(tree, none);
    }

    @Override
    public Void visitBinary(BinaryTree tree, Void none) {
      boolean text = String.valueOf(trees.getTypeMirror(getCurrentPath())).equals("java.lang.String");
      rule(10, "a text joined: " + tree, text, false);
      return super.visitBinary(tree, none);
    }

    // ---- constants stay as they are ----

    @Override
    public Void visitAssignment(AssignmentTree tree, Void none) {
      changed(tree.getVariable());
      return super.visitAssignment(tree, none);
    }

    @Override
    public Void visitCompoundAssignment(CompoundAssignmentTree tree, Void none) {
      changed(tree.getVariable());
      return super.visitCompoundAssignment(tree, none);
    }

    @Override
    public Void visitUnary(UnaryTree tree, Void none) {
      if (tree.getKind().toString().endsWith("CREMENT")) changed(tree.getExpression());
      return super.visitUnary(tree, none);
    }

    private void changed(ExpressionTree what) {
      if (!(what instanceof ArrayAccessTree)) return;
      ExpressionTree array = ((ArrayAccessTree) what).getExpression();
      Element of = trees.getElement(new TreePath(new TreePath(getCurrentPath(), what), array));
      rule(5, "an element of a constant is changed: " + what, of != null && of.getModifiers().contains(Modifier.STATIC), false);
    }

    // ---- loops ----

    @Override
    public Void visitForLoop(ForLoopTree tree, Void none) {
      rule(9, "a bound and a step: " + head(tree), tree.getCondition() != null && !tree.getUpdate().isEmpty(), true);
      return super.visitForLoop(tree, none);
    }

    @Override
    public Void visitWhileLoop(WhileLoopTree tree, Void none) {
      rule(9, "a bound: " + head(tree), tree.getCondition().toString().matches("\\(\\w+ [<>].*"), true);
      return super.visitWhileLoop(tree, none);
    }

    private static String head(Tree tree) {
      return tree.toString().lines().findFirst().orElse("");
    }
  }

  // ---- what is seen only when all has been read ----

  /** How many calls stand open at once, at the most, when this one is asked; more than any bound if it calls itself. */
  private static int depth(Map<String, Set<String>> calls, String method, Set<String> open) {
    if (!open.add(method)) {
      rule(8, "no method calls itself, by others or not: " + method, true, false);
      return 0;
    }
    int deepest = 0;
    for (String called : calls.getOrDefault(method, Set.of())) deepest = Math.max(deepest, depth(calls, called, open));
    open.remove(method);
    return deepest + 1;
  }

  private static void look(Reader reader) {
    rule(1, "no package line", reader.unit.getPackageName() == null, true);
    rule(4, "imports", reader.unit.getImports().size(), 0);
    rule(1, "classes beside the one", reader.unit.getTypeDecls().size(), 1);
    Set<String> both = new TreeSet<>(reader.otherMethods);
    both.retainAll(reader.publicMethods);
    rule(1, "private methods with the name of a public one", both, Set.of());
    rule(11, "classes", reader.fields.size() <= MOST_CLASSES, true);
    for (Map.Entry<String, Integer> e : reader.fields.entrySet()) rule(11, e + " fields", e.getValue() <= MOST_FIELDS, true);
    for (String method : reader.calls.keySet()) {
      rule(11, method + " goes at most so deep", depth(reader.calls, method, new HashSet<>()) <= MOST_DEEP, true);
    }
    rule(11, "the methods have been read", reader.calls.size() > 21 && reader.publicMethods.size() == 21, true);
  }

  public static void main(String[] args) throws Exception {
    JavaCompiler compiler = ToolProvider.getSystemJavaCompiler();
    try (StandardJavaFileManager files = compiler.getStandardFileManager(null, null, null)) {
      JavacTask task = (JavacTask) compiler.getTask(null, files, null, List.of("--release", "17", "-proc:none"), null,
          files.getJavaFileObjects(SOURCE));
      CompilationUnitTree unit = task.parse().iterator().next();
      task.analyze();
      Reader reader = new Reader(Trees.instance(task), unit);
      reader.scan(unit, null);
      look(reader);
    }
    Check.end("the source keeps to its rules");
  }
}
