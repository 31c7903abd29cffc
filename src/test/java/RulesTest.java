import com.sun.source.tree.ArrayAccessTree;
import com.sun.source.tree.AssertTree;
import com.sun.source.tree.AssignmentTree;
import com.sun.source.tree.BinaryTree;
import com.sun.source.tree.ClassTree;
import com.sun.source.tree.CompilationUnitTree;
import com.sun.source.tree.CompoundAssignmentTree;
import com.sun.source.tree.DoWhileLoopTree;
import com.sun.source.tree.ExpressionTree;
import com.sun.source.tree.ForLoopTree;
import com.sun.source.tree.ImportTree;
import com.sun.source.tree.InstanceOfTree;
import com.sun.source.tree.LambdaExpressionTree;
import com.sun.source.tree.LiteralTree;
import com.sun.source.tree.MemberReferenceTree;
import com.sun.source.tree.MemberSelectTree;
import com.sun.source.tree.MethodInvocationTree;
import com.sun.source.tree.MethodTree;
import com.sun.source.tree.NewArrayTree;
import com.sun.source.tree.NewClassTree;
import com.sun.source.tree.ParameterizedTypeTree;
import com.sun.source.tree.SynchronizedTree;
import com.sun.source.tree.ThrowTree;
import com.sun.source.tree.Tree;
import com.sun.source.tree.TryTree;
import com.sun.source.tree.TypeCastTree;
import com.sun.source.tree.VariableTree;
import com.sun.source.tree.WhileLoopTree;
import com.sun.source.util.JavacTask;
import com.sun.source.util.TreePath;
import com.sun.source.util.TreePathScanner;
import com.sun.source.util.Trees;
import java.io.IOException;
import java.net.URI;
import java.nio.file.Files;
import java.nio.file.Path;
import java.util.ArrayList;
import java.util.HashMap;
import java.util.HashSet;
import java.util.List;
import java.util.Map;
import java.util.Set;
import java.util.TreeSet;
import javax.lang.model.element.Element;
import javax.lang.model.element.ElementKind;
import javax.lang.model.element.ExecutableElement;
import javax.lang.model.element.Modifier;
import javax.tools.JavaCompiler;
import javax.tools.JavaFileObject;
import javax.tools.SimpleJavaFileObject;
import javax.tools.ToolProvider;

/**
 * LANGUAGE.md: the class keeps to its rules. Where a rule allows what the class does without (an
 * import, a cast, a while, recursion), this allows none either, so as to stay short. What is said
 * of each change of the source shows that each rule is looked at.
 */
public final class RulesTest {
  private static final Path SOURCE = Path.of("src/main/java/PulledFromUnder.java");
  private static final Set<String> TYPES = Set.of("int", "long", "boolean", "char", "String",
      "int[]", "int[][]", "Scene", "Scene[]");
  private static final Set<String> CONSTANTS = Set.of("int", "long", "boolean", "char", "String",
      "int[]");
  private static final Set<String> LIBRARY = Set.of("java.lang.String.length",
      "java.lang.String.charAt", "java.lang.String.isEmpty", "java.lang.Integer.bitCount",
      "java.lang.Math.max", "java.lang.Math.min", "java.lang.Math.abs",
      "java.lang.System.arraycopy");
  private static final Set<String> NO_NAMES = Set.of("equals", "hashCode", "toString");

  public static void main(String[] args) throws IOException {
    String source = Files.readString(SOURCE);
    int wrong = 0;
    for (String breach : breaches(source)) {
      System.out.println(breach);
      wrong++;
    }
    for (String[] change : changes()) {
      wrong += unseen(source, change) ? 1 : 0;
    }
    System.out.println(changes().length + " changes, " + wrong + " not as due");
    if (wrong != 0) {
      System.exit(1);
    }
  }

  /** A rule, a piece of the source, and what breaks the rule in its place. */
  private static String[][] changes() {
    String clear = "    int had = rowCount;\n";
    String field = "  private int seed;\n";
    String count = "  int countStanding() {\n";
    return new String[][] {
        {"1", "public final class", "public class"},
        {"1", "  private int seed;", "  int seed;"},
        {"1", "  private int refuse(", "  int refuse("},
        {"1", "  private int digitAt(", "  private int count(int a, int b) { return a + b; }\n"
            + "  private int digitAt("},
        {"2", "private static final class Scene", "private final class Scene"},
        {"2", clear, clear + "    Runnable r = () -> { };\n"},
        {"2", clear, clear + "    Object o = new Object() { };\n"},
        {"3", clear, clear + "    float f = 1;\n"},
        {"3", clear, clear + "    Object o = null;\n"},
        {"4", "/** Things", "import java.util.HashMap;\n/** Things"},
        {"4", clear, clear + "    had += Integer.parseInt(\"1\");\n"},
        {"4", clear, clear + "    had += Integer.MAX_VALUE;\n"},
        {"4", clear, clear + "    had += '" + (char) 233 + "';\n"},
        {"5", field, field + "  private static int kept1;\n"},
        {"5", field, field + "  private static final int[] MADE = new int[3];\n"},
        {"5", clear, clear + "    ORDERS[0] = 1;\n"},
        {"5", field, field + "  static { }\n"},
        {"6", clear, clear + "    if (had > 99) { throw new IllegalStateException(); }\n"},
        {"6", clear, clear + "    try { had++; } finally { had--; }\n"},
        {"6", clear, clear + "    assert had > 0;\n"},
        {"6", clear, clear + "    synchronized (this) { had++; }\n"},
        {"6", count, "  public String toString() { return \"\"; }\n" + count},
        {"6", clear, clear + "    boolean b = \"a\" == \"b\";\n"},
        {"8", count, "  private int again(int a) { return a < 1 ? 0 : again(a - 1); }\n" + count},
        {"9", clear, clear + "    while (had < 0) { had++; }\n"},
        {"9", clear, clear + "    for (;;) { break; }\n"},
        {"10", clear, clear + "    boolean b = false; b |= had > 3;\n"},
        {"10", clear, clear + "    boolean b = had > 3 & had < 4;\n"},
        {"10", clear, clear + "    String s = \"a\"; s += had;\n"},
        {"11", count, "  int many(int a, int b, int c, int d, int e, int f, int g, int h) {"
            + " return a; }\n" + count},
        {"11", clear, clear + "\n".repeat(60)},
        {"11", field, field + "  private int a, b, c, d, e, f, g, h, i, j;\n"},
        {"11", count, "  int a1() { return a2(); } int a2() { return a3(); }\n"
            + "  int a3() { return a4(); } int a4() { return a5(); }\n"
            + "  int a5() { return a6(); } int a6() { return a7(); }\n"
            + "  int a7() { return a8(); } int a8() { return a9(); }\n"
            + "  int a9() { return 1; }\n" + count},
        {"12", clear, clear + "    int[] more = new int[9];\n"},
        {"12", clear, clear + "    Scene more = new Scene();\n"}};
  }

  private static boolean unseen(String source, String[] change) {
    boolean isThere = source.contains(change[1]);
    String changed = isThere ? source.replace(change[1], change[2]) : source;
    for (String breach : isThere ? breaches(changed) : List.<String>of()) {
      if (breach.startsWith("rule " + change[0] + ":")) {
        return false;
      }
    }
    System.out.println("rule " + change[0] + " is not looked at: " + change[2].strip());
    return true;
  }

  private static Set<String> breaches(String source) {
    JavaCompiler compiler = ToolProvider.getSystemJavaCompiler();
    JavacTask task = (JavacTask) compiler.getTask(null, null, problem -> { },
        List.of("-proc:none"), null, List.of(new Text(source)));
    Rules rules = new Rules(Trees.instance(task));
    try {
      Iterable<? extends CompilationUnitTree> files = task.parse();
      task.analyze();
      for (CompilationUnitTree file : files) {
        rules.scan(file, null);
      }
    } catch (IOException e) {
      throw new IllegalStateException(e);
    }
    rules.lookAtCalls();
    return rules.breaches;
  }

  private static final class Text extends SimpleJavaFileObject {
    private final String text;

    Text(String text) {
      super(URI.create("string:///PulledFromUnder.java"), JavaFileObject.Kind.SOURCE);
      this.text = text;
    }

    @Override
    public CharSequence getCharContent(boolean ignoreErrors) {
      return text;
    }
  }

  private static final class Rules extends TreePathScanner<Void, Void> {
    final Set<String> breaches = new TreeSet<>();
    private final Trees trees;
    private final Map<String, Set<String>> calls = new HashMap<>();
    private final Set<String> publicNames = new HashSet<>();
    private int classes = 0;

    Rules(Trees trees) {
      this.trees = trees;
    }

    private void breach(int rule, String what, Tree where) {
      CompilationUnitTree file = getCurrentPath().getCompilationUnit();
      long start = trees.getSourcePositions().getStartPosition(file, where);
      long line = start < 0 ? 0 : file.getLineMap().getLineNumber(start);
      breaches.add("rule " + rule + ": line " + line + ": " + what);
    }

    private String typeOf(Tree tree) {
      String type = String.valueOf(trees.getTypeMirror(new TreePath(getCurrentPath(), tree)));
      return type.startsWith("java.lang.String") ? "String" : type.replace("PulledFromUnder.", "");
    }

    private Element elementOf(Tree tree) {
      return trees.getElement(new TreePath(getCurrentPath(), tree));
    }

    /** The method or class that the place looked at is in. */
    private Tree around(Tree.Kind kind) {
      for (Tree tree : getCurrentPath()) {
        if (tree.getKind() == kind) {
          return tree;
        }
      }
      return null;
    }

    private boolean isInConstructor() {
      MethodTree method = (MethodTree) around(Tree.Kind.METHOD);
      return method != null && method.getName().contentEquals("<init>");
    }

    // ---- the file, classes, members

    @Override
    public Void visitCompilationUnit(CompilationUnitTree file, Void none) {
      if (file.getPackage() != null || file.getTypeDecls().size() != 1) {
        breaches.add("rule 1: line 1: one class without a package");
      }
      return super.visitCompilationUnit(file, none);
    }

    @Override
    public Void visitImport(ImportTree tree, Void none) {
      breach(4, "import " + tree.getQualifiedIdentifier(), tree);
      return null;
    }

    @Override
    public Void visitClass(ClassTree tree, Void none) {
      classes++;
      Set<Modifier> modifiers = tree.getModifiers().getFlags();
      boolean isOuter = getCurrentPath().getParentPath().getLeaf() instanceof CompilationUnitTree;
      if (isOuter && !modifiers.equals(Set.of(Modifier.PUBLIC, Modifier.FINAL))) {
        breach(1, "the class is public and final", tree);
      }
      boolean isSeen = modifiers.contains(Modifier.PUBLIC) || modifiers.contains(Modifier.PROTECTED);
      if (!isOuter && (isSeen || !modifiers.contains(Modifier.STATIC))) {
        breach(2, "a class inside is static, and not public", tree);
      }
      if (classes > 12) {
        breach(11, "more than 12 classes", tree);
      }
      int fields = 0;
      for (Tree member : tree.getMembers()) {
        fields += isFieldOfObjects(member) ? 1 : 0;
        if (member.getKind() == Tree.Kind.BLOCK) {
          breach(5, "no initialiser block", member);
        }
        if (isOuter) {
          lookAtMember(member);
        }
      }
      if (fields > 20) {
        breach(11, fields + " fields", tree);
      }
      return super.visitClass(tree, none);
    }

    private static boolean isFieldOfObjects(Tree member) {
      return member instanceof VariableTree
          && !((VariableTree) member).getModifiers().getFlags().contains(Modifier.STATIC);
    }

    private void lookAtMember(Tree member) {
      if (member instanceof VariableTree) {
        VariableTree field = (VariableTree) member;
        if (!field.getModifiers().getFlags().contains(Modifier.PRIVATE)) {
          breach(1, field.getName() + " is not private", field);
        }
      } else if (member instanceof MethodTree) {
        MethodTree method = (MethodTree) member;
        Set<Modifier> modifiers = method.getModifiers().getFlags();
        if (modifiers.contains(Modifier.PUBLIC)) {
          publicNames.add(method.getName().toString());
        } else if (!modifiers.contains(Modifier.PRIVATE)) {
          breach(1, method.getName() + " is neither public nor private", method);
        }
      }
    }

    @Override
    public Void visitMethod(MethodTree tree, Void none) {
      String name = tree.getName().toString();
      boolean isPublic = tree.getModifiers().getFlags().contains(Modifier.PUBLIC);
      if (!isPublic && publicNames.contains(name) && !name.equals("<init>")) {
        breach(1, name + " bears the name of a public one", tree);
      }
      if (NO_NAMES.contains(name)) {
        breach(6, "no " + name, tree);
      }
      if (!tree.getThrows().isEmpty()) {
        breach(6, name + " throws", tree);
      }
      if (tree.getParameters().size() > 7) {
        breach(11, name + " takes more than seven parameters", tree);
      }
      CompilationUnitTree file = getCurrentPath().getCompilationUnit();
      long start = trees.getSourcePositions().getStartPosition(file, tree);
      long end = trees.getSourcePositions().getEndPosition(file, tree);
      if (end > start && file.getLineMap().getLineNumber(end) - file.getLineMap()
          .getLineNumber(start) >= 60) {
        breach(11, name + " is longer than sixty lines", tree);
      }
      return super.visitMethod(tree, none);
    }

    @Override
    public Void visitVariable(VariableTree tree, Void none) {
      String type = typeOf(tree.getType());
      if (!TYPES.contains(type)) {
        breach(3, "a " + type, tree);
      }
      Element element = trees.getElement(getCurrentPath());
      boolean isStatic = element != null && element.getModifiers().contains(Modifier.STATIC);
      if (isStatic && element.getKind() == ElementKind.FIELD) {
        lookAtConstant(tree, element, type);
      }
      return super.visitVariable(tree, none);
    }

    private void lookAtConstant(VariableTree tree, Element element, String type) {
      if (!element.getModifiers().contains(Modifier.FINAL) || !CONSTANTS.contains(type)) {
        breach(5, tree.getName() + " is no constant", tree);
      }
      ExpressionTree value = tree.getInitializer();
      boolean isWrittenOut = value instanceof NewArrayTree
          && ((NewArrayTree) value).getInitializers() != null;
      if (type.endsWith("[]") && !isWrittenOut) {
        breach(5, tree.getName() + " is not written out", tree);
      }
    }

    // ---- what is said in methods

    @Override
    public Void visitLambdaExpression(LambdaExpressionTree tree, Void none) {
      breach(2, "a lambda", tree);
      return super.visitLambdaExpression(tree, none);
    }

    @Override
    public Void visitMemberReference(MemberReferenceTree tree, Void none) {
      breach(2, "a method reference", tree);
      return super.visitMemberReference(tree, none);
    }

    @Override
    public Void visitParameterizedType(ParameterizedTypeTree tree, Void none) {
      breach(3, "a generic type", tree);
      return super.visitParameterizedType(tree, none);
    }

    @Override
    public Void visitThrow(ThrowTree tree, Void none) {
      breach(6, "throw", tree);
      return super.visitThrow(tree, none);
    }

    @Override
    public Void visitTry(TryTree tree, Void none) {
      breach(6, "try", tree);
      return super.visitTry(tree, none);
    }

    @Override
    public Void visitSynchronized(SynchronizedTree tree, Void none) {
      breach(6, "synchronized", tree);
      return super.visitSynchronized(tree, none);
    }

    @Override
    public Void visitAssert(AssertTree tree, Void none) {
      breach(6, "assert", tree);
      return super.visitAssert(tree, none);
    }

    @Override
    public Void visitTypeCast(TypeCastTree tree, Void none) {
      breach(6, "a cast", tree);
      return super.visitTypeCast(tree, none);
    }

    @Override
    public Void visitInstanceOf(InstanceOfTree tree, Void none) {
      breach(6, "instanceof", tree);
      return super.visitInstanceOf(tree, none);
    }

    @Override
    public Void visitWhileLoop(WhileLoopTree tree, Void none) {
      breach(9, "while: a for tells its end", tree);
      return super.visitWhileLoop(tree, none);
    }

    @Override
    public Void visitDoWhileLoop(DoWhileLoopTree tree, Void none) {
      breach(9, "do: a for tells its end", tree);
      return super.visitDoWhileLoop(tree, none);
    }

    @Override
    public Void visitForLoop(ForLoopTree tree, Void none) {
      if (tree.getCondition() == null || tree.getUpdate().isEmpty()) {
        breach(9, "a for without an end", tree);
      }
      return super.visitForLoop(tree, none);
    }

    @Override
    public Void visitBinary(BinaryTree tree, Void none) {
      String type = typeOf(tree.getLeftOperand());
      lookAtOperator(tree, tree.getKind(), type);
      boolean compares = tree.getKind() == Tree.Kind.EQUAL_TO
          || tree.getKind() == Tree.Kind.NOT_EQUAL_TO;
      if (compares && type.equals("String")) {
        breach(6, "== of Strings", tree);
      }
      if (tree.getKind() == Tree.Kind.PLUS && typeOf(tree.getRightOperand()).equals("String")) {
        breach(10, "texts joined by +", tree);
      }
      return super.visitBinary(tree, none);
    }

    @Override
    public Void visitCompoundAssignment(CompoundAssignmentTree tree, Void none) {
      lookAtOperator(tree, tree.getKind(), typeOf(tree.getVariable()));
      return super.visitCompoundAssignment(tree, none);
    }

    private void lookAtOperator(Tree tree, Tree.Kind kind, String type) {
      if (kind.name().startsWith("PLUS") && type.equals("String")) {
        breach(10, "texts joined by +", tree);
      }
      boolean ofBits = kind.name().matches("(AND|OR|XOR)(_ASSIGNMENT)?");
      if (ofBits && type.equals("boolean")) {
        breach(10, "&, | or ^ of booleans", tree);
      }
    }

    @Override
    public Void visitAssignment(AssignmentTree tree, Void none) {
      lookAtChanged(tree.getVariable());
      return super.visitAssignment(tree, none);
    }

    private void lookAtChanged(ExpressionTree changed) {
      if (changed instanceof ArrayAccessTree) {
        ExpressionTree array = ((ArrayAccessTree) changed).getExpression();
        Element element = trees.getElement(TreePath.getPath(getCurrentPath(), array));
        if (element != null && element.getModifiers().contains(Modifier.STATIC)) {
          breach(5, array + " is changed", changed);
        }
      }
    }

    @Override
    public Void visitLiteral(LiteralTree tree, Void none) {
      Object value = tree.getValue();
      if (value instanceof String || value instanceof Character) {
        for (char c : value.toString().toCharArray()) {
          if (c < 1 || c > 127) {
            breach(4, "a sign that is not 1 to 127", tree);
          }
        }
      } else if (value instanceof Double || value instanceof Float) {
        breach(3, "a fraction", tree);
      }
      return super.visitLiteral(tree, none);
    }

    @Override
    public Void visitNewClass(NewClassTree tree, Void none) {
      if (tree.getClassBody() != null) {
        breach(2, "a class without a name", tree);
      }
      if (!isInConstructor()) {
        breach(12, "an object is made outside a constructor", tree);
      }
      return super.visitNewClass(tree, none);
    }

    @Override
    public Void visitNewArray(NewArrayTree tree, Void none) {
      if (around(Tree.Kind.METHOD) != null && !isInConstructor()) {
        breach(12, "an array is made outside a constructor", tree);
      }
      return super.visitNewArray(tree, none);
    }

    @Override
    public Void visitMemberSelect(MemberSelectTree tree, Void none) {
      Element element = trees.getElement(getCurrentPath());
      boolean isField = element != null && element.getKind() == ElementKind.FIELD;
      if (isField && element.getEnclosingElement().toString().startsWith("java")) {
        breach(4, "the library's " + tree, tree);
      }
      return super.visitMemberSelect(tree, none);
    }

    // ---- who calls whom

    @Override
    public Void visitMethodInvocation(MethodInvocationTree tree, Void none) {
      Element called = elementOf(tree);
      MethodTree caller = (MethodTree) around(Tree.Kind.METHOD);
      if (called instanceof ExecutableElement && caller != null) {
        String owner = called.getEnclosingElement().toString();
        String name = owner + "." + called.getSimpleName();
        boolean isOwn = owner.startsWith("PulledFromUnder");
        boolean isSuper = called.getKind() == ElementKind.CONSTRUCTOR;
        if (!isOwn && !isSuper && !LIBRARY.contains(name)) {
          breach(4, "the library's " + name, tree);
        }
        ClassTree within = (ClassTree) around(Tree.Kind.CLASS);
        boolean isInside = within.getSimpleName().contentEquals("Scene");
        String from = (isInside ? "PulledFromUnder.Scene." : "PulledFromUnder.")
            + caller.getName();
        calls.computeIfAbsent(from, key -> new TreeSet<>()).add(name);
      }
      return super.visitMethodInvocation(tree, none);
    }

    void lookAtCalls() {
      for (String from : calls.keySet()) {
        lookAtCallsOf(from, new ArrayList<>());
      }
    }

    private void lookAtCallsOf(String from, List<String> open) {
      if (open.contains(from)) {
        breaches.add("rule 8: " + from + " comes back to itself");
        return;
      }
      open.add(from);
      if (open.size() > 8) {
        breaches.add("rule 11: calls go deeper than eight: " + open);
      }
      for (String next : calls.getOrDefault(from, Set.of())) {
        lookAtCallsOf(next, open);
      }
      open.remove(open.size() - 1);
    }
  }
}
