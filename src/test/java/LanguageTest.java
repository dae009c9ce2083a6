import com.sun.source.tree.BinaryTree;
import com.sun.source.tree.BlockTree;
import com.sun.source.tree.ClassTree;
import com.sun.source.tree.CompilationUnitTree;
import com.sun.source.tree.CompoundAssignmentTree;
import com.sun.source.tree.DoWhileLoopTree;
import com.sun.source.tree.ExpressionTree;
import com.sun.source.tree.ForLoopTree;
import com.sun.source.tree.LiteralTree;
import com.sun.source.tree.MethodInvocationTree;
import com.sun.source.tree.MethodTree;
import com.sun.source.tree.NewArrayTree;
import com.sun.source.tree.NewClassTree;
import com.sun.source.tree.ParenthesizedTree;
import com.sun.source.tree.ThrowTree;
import com.sun.source.tree.Tree;
import com.sun.source.tree.TypeCastTree;
import com.sun.source.tree.VariableTree;
import com.sun.source.tree.WhileLoopTree;
import com.sun.source.util.JavacTask;
import com.sun.source.util.TreePath;
import com.sun.source.util.TreePathScanner;
import com.sun.source.util.Trees;
import java.nio.file.Path;
import java.util.HashSet;
import java.util.LinkedHashMap;
import java.util.List;
import java.util.Map;
import java.util.Set;
import javax.lang.model.element.Element;
import javax.lang.model.element.ElementKind;
import javax.lang.model.element.ExecutableElement;
import javax.lang.model.element.Modifier;
import javax.lang.model.element.TypeElement;
import javax.lang.model.element.VariableElement;
import javax.lang.model.type.ArrayType;
import javax.lang.model.type.TypeKind;
import javax.lang.model.type.TypeMirror;
import javax.tools.JavaCompiler;
import javax.tools.StandardJavaFileManager;
import javax.tools.ToolProvider;

/**
 * Looks through the class, with its types, for what ../shared/LANGUAGE.md rules out, as far as the text
 * shows it. Where the class does without a thing that the rules allow, such as try, the test does too.
 */
public final class LanguageTest extends TreePathScanner<Void, Void> {
  private static final Set<String> LIBRARY = Set.of("java.util.Arrays.fill", "java.util.Arrays.copyOf",
      "java.util.Arrays.copyOfRange", "java.lang.System.arraycopy", "java.lang.Math.max", "java.lang.Math.min",
      "java.lang.Math.abs", "java.lang.Math.floorDiv", "java.lang.Math.floorMod");
  private static final Set<String> EXCEPTIONS = Set.of("java.lang.IllegalStateException",
      "java.lang.IllegalArgumentException", "java.lang.IndexOutOfBoundsException", "java.lang.ArithmeticException",
      "java.lang.UnsupportedOperationException", "java.util.NoSuchElementException", "java.lang.RuntimeException");
  private static final Set<Tree.Kind> RULED_OUT = Set.of(Tree.Kind.LAMBDA_EXPRESSION, Tree.Kind.MEMBER_REFERENCE,
      Tree.Kind.SYNCHRONIZED, Tree.Kind.ASSERT, Tree.Kind.TRY, Tree.Kind.PACKAGE, Tree.Kind.INSTANCE_OF);
  private static final Set<Tree.Kind> LOOPS = Set.of(Tree.Kind.FOR_LOOP, Tree.Kind.ENHANCED_FOR_LOOP,
      Tree.Kind.WHILE_LOOP, Tree.Kind.DO_WHILE_LOOP);
  private static final Set<TypeKind> NUMBERS =
      Set.of(TypeKind.INT, TypeKind.LONG, TypeKind.SHORT, TypeKind.BYTE, TypeKind.CHAR, TypeKind.BOOLEAN);
  private static final Set<String> NAMES_RULED_OUT = Set.of("equals", "hashCode", "toString");
  private static final int MOST_LINES = 60;
  private static final int MOST_CLASSES = 12;
  private static final int MOST_FIELDS = 20;
  private static final int MOST_PARAMETERS = 7;
  private static final int DEEPEST = 8;
  private static final int LAST_SIGN = 127;

  private final Trees trees;
  private final CompilationUnitTree unit;
  private final Map<Element, Set<Element>> callsOf = new LinkedHashMap<>();
  private final Set<String> face = new HashSet<>();
  private int classes;
  private int loops;
  private int wrong;
  private ExecutableElement method;
  private MethodTree methodTree;

  private LanguageTest(Trees trees, CompilationUnitTree unit) {
    this.trees = trees;
    this.unit = unit;
  }

  public static void main(String[] args) throws Exception {
    Path source = Path.of(args.length > 0 ? args[0] : "src/main/java/ScanningHouse.java");
    JavaCompiler compiler = ToolProvider.getSystemJavaCompiler();
    try (StandardJavaFileManager files = compiler.getStandardFileManager(null, null, null)) {
      JavacTask task = (JavacTask) compiler.getTask(null, files, null, List.of("-proc:none"), null,
          files.getJavaFileObjects(source));
      CompilationUnitTree unit = task.parse().iterator().next();
      task.analyze();
      LanguageTest test = new LanguageTest(Trees.instance(task), unit);
      test.scan(unit, null);
      test.checkCalls();
      test.check(test.classes <= MOST_CLASSES, "rule 11: there are " + test.classes + " classes");
      System.out.println("LanguageTest: " + test.callsOf.size() + " methods, " + test.wrong + " wrong");
      System.exit(test.wrong == 0 && !test.callsOf.isEmpty() ? 0 : 1);
    }
  }

  private void check(boolean is, String text) {
    if (!is) {
      wrong++;
      System.out.println("LANGUAGE.md, " + text + " (in " + method + ")");
    }
  }

  private Element elementHere() {
    return trees.getElement(getCurrentPath());
  }

  private TypeMirror typeOf(Tree tree) {
    return trees.getTypeMirror(new TreePath(getCurrentPath(), tree));
  }

  private static boolean isOwn(Element element) {
    Element top = element;
    while (top != null && top.getEnclosingElement() != null
        && top.getEnclosingElement().getKind() != ElementKind.PACKAGE) {
      top = top.getEnclosingElement();
    }
    return top != null && top.getSimpleName().contentEquals("ScanningHouse");
  }

  // ---- the whole file

  @Override
  public Void visitCompilationUnit(CompilationUnitTree tree, Void nothing) {
    check(tree.getTypeDecls().size() == 1, "one file, one public class");
    for (Tree each : tree.getImports()) {
      check(each.toString().matches("import java\\.util\\.(Arrays|ArrayList|List|NoSuchElementException);\\s*"),
          "rule 4: " + each);
    }
    return super.visitCompilationUnit(tree, nothing);
  }

  @Override
  public Void scan(Tree tree, Void nothing) {
    check(tree == null || !RULED_OUT.contains(tree.getKind()), "ruled out: " + tree);
    int isLoop = tree != null && LOOPS.contains(tree.getKind()) ? 1 : 0;
    loops += isLoop;
    super.scan(tree, nothing);
    loops -= isLoop;
    return null;
  }

  @Override
  public Void visitClass(ClassTree tree, Void nothing) {
    Set<Modifier> flags = tree.getModifiers().getFlags();
    boolean isOuter = elementHere().getEnclosingElement().getKind() == ElementKind.PACKAGE;
    classes++;
    check(!isOuter || flags.equals(Set.of(Modifier.PUBLIC, Modifier.FINAL)), "rule 1: the class is public and final");
    check(isOuter || flags.contains(Modifier.STATIC) && !flags.contains(Modifier.PUBLIC)
        && !flags.contains(Modifier.PROTECTED), "rule 1: " + tree.getSimpleName());
    check(method == null, "rule 2: a class within a method: " + tree.getSimpleName());
    int fields = 0;
    for (Tree member : tree.getMembers()) {
      check(!(member instanceof BlockTree), "rule 5: an initialiser block in " + tree.getSimpleName());
      if (member instanceof VariableTree field && !field.getModifiers().getFlags().contains(Modifier.STATIC)) {
        fields++;
      }
      if (isOuter && member instanceof MethodTree own && own.getModifiers().getFlags().contains(Modifier.PUBLIC)) {
        face.add(own.getName().toString());
      }
    }
    check(fields <= MOST_FIELDS, "rule 11: " + fields + " fields in " + tree.getSimpleName());
    return super.visitClass(tree, nothing);
  }

  // ---- types

  @Override
  public Void visitVariable(VariableTree tree, Void nothing) {
    VariableElement variable = (VariableElement) elementHere();
    TypeMirror type = variable.asType();
    check(isAllowed(type), "rule 3: the type of " + tree);
    if (variable.getModifiers().contains(Modifier.STATIC)) {
      boolean isConstant = variable.getConstantValue() != null;
      check(variable.getModifiers().contains(Modifier.FINAL) && isConstant, "rule 5: " + tree);
    }
    return super.visitVariable(tree, nothing);
  }

  private static boolean isAllowed(TypeMirror type) {
    if (type instanceof ArrayType row) {
      TypeMirror inner = row.getComponentType();
      boolean isRowOfNumbers = inner instanceof ArrayType rows && NUMBERS.contains(rows.getComponentType().getKind());
      return isRowOfNumbers || !(inner instanceof ArrayType) && isAllowed(inner);
    }
    return NUMBERS.contains(type.getKind()) || type.getKind() == TypeKind.VOID
        || type.toString().equals("java.lang.String")
        || type.toString().startsWith("ScanningHouse");
  }

  @Override
  public Void visitTypeCast(TypeCastTree tree, Void nothing) {
    check(typeOf(tree.getType()).getKind().isPrimitive(), "rule 7: a cast: " + tree);
    return super.visitTypeCast(tree, nothing);
  }

  @Override
  public Void visitLiteral(LiteralTree tree, Void nothing) {
    if (tree.getValue() instanceof String text) {
      check(text.chars().allMatch(sign -> sign >= 1 && sign <= LAST_SIGN), "rule 4: the signs of " + tree);
    }
    return super.visitLiteral(tree, nothing);
  }

  // ---- methods and calls

  @Override
  public Void visitMethod(MethodTree tree, Void nothing) {
    ExecutableElement outer = method;
    MethodTree outerTree = methodTree;
    method = (ExecutableElement) elementHere();
    methodTree = tree;
    callsOf.computeIfAbsent(method, element -> new HashSet<>());
    String name = tree.getName().toString();
    boolean isOfFace = tree.getModifiers().getFlags().contains(Modifier.PUBLIC) || tree.getReturnType() == null;
    check(isOfFace || !face.contains(name), "rule 1: it bears the name of a public one: " + name);
    check(!NAMES_RULED_OUT.contains(name), "rule 6: " + name);
    check(isAllowed(method.getReturnType()), "rule 3: what it returns");
    check(tree.getParameters().size() <= MOST_PARAMETERS, "rule 11: its parameters");
    check(linesOf(tree) <= MOST_LINES, "rule 11: its lines");
    super.visitMethod(tree, nothing);
    method = outer;
    methodTree = outerTree;
    return null;
  }

  private long linesOf(Tree tree) {
    long first = unit.getLineMap().getLineNumber(trees.getSourcePositions().getStartPosition(unit, tree));
    long last = unit.getLineMap().getLineNumber(trees.getSourcePositions().getEndPosition(unit, tree));
    return last - first + 1;
  }

  @Override
  public Void visitMethodInvocation(MethodInvocationTree tree, Void nothing) {
    noteCall(elementHere(), tree);
    return super.visitMethodInvocation(tree, nothing);
  }

  private void noteCall(Element called, Tree tree) {
    String name = called.getEnclosingElement() + "." + called.getSimpleName();
    boolean isBuiltIn = name.equals("java.lang.Object.<init>");
    check(isOwn(called) || isBuiltIn || LIBRARY.contains(name), "rule 4: " + tree);
    if (isOwn(called) && method != null) {
      callsOf.get(method).add(called);
    }
  }

  @Override
  public Void visitNewClass(NewClassTree tree, Void nothing) {
    Element made = elementHere().getEnclosingElement();
    boolean isThrown = getCurrentPath().getParentPath().getLeaf() instanceof ThrowTree;
    check(isThrown || isOwn(made), "rule 4: " + tree);
    check(isThrown || !isInOpenLoop(), "rule 12: made in a loop: " + tree);
    if (!isThrown) {
      noteCall(elementHere(), tree);
    }
    return super.visitNewClass(tree, nothing);
  }

  @Override
  public Void visitNewArray(NewArrayTree tree, Void nothing) {
    check(!isInOpenLoop(), "rule 12: made in a loop: " + tree);
    return super.visitNewArray(tree, nothing);
  }

  /** A constructor makes its rows in a loop that a range of the document bounds; no call of the face does. */
  private boolean isInOpenLoop() {
    return loops > 0 && method != null && method.getKind() != ElementKind.CONSTRUCTOR;
  }

  private void checkCalls() {
    for (Element each : callsOf.keySet()) {
      method = (ExecutableElement) each;
      int depth = depthOf(each, new HashSet<>());
      check(depth <= DEEPEST, "rule 11: it goes " + depth + " calls deep");
      boolean isPlainRecursion = callsOf.get(each).contains(each)
          && each.getModifiers().containsAll(Set.of(Modifier.PRIVATE, Modifier.STATIC));
      check(!reaches(each, each, new HashSet<>()) || isPlainRecursion, "rule 8: it comes back to itself");
    }
  }

  /** How many calls are open at once from this one on; a method that calls itself counts once. */
  private int depthOf(Element from, Set<Element> open) {
    int below = 0;
    if (callsOf.containsKey(from) && open.add(from)) {
      for (Element called : callsOf.get(from)) {
        below = Math.max(below, depthOf(called, open));
      }
      open.remove(from);
      return below + 1;
    }
    return 0;
  }

  private boolean reaches(Element from, Element to, Set<Element> seen) {
    for (Element called : callsOf.getOrDefault(from, Set.of())) {
      if (called.equals(to) || seen.add(called) && reaches(called, to, seen)) {
        return true;
      }
    }
    return false;
  }

  // ---- throws

  @Override
  public Void visitThrow(ThrowTree tree, Void nothing) {
    check(method.getKind() != ElementKind.CONSTRUCTOR, "rule 6: a throw in a constructor");
    boolean isPlain = tree.getExpression() instanceof NewClassTree made
        && EXCEPTIONS.contains(typeOf(made).toString())
        && (made.getArguments().isEmpty()
            || made.getArguments().size() == 1 && made.getArguments().get(0) instanceof LiteralTree);
    check(isPlain, "rule 6: " + tree);
    return super.visitThrow(tree, nothing);
  }

  // ---- loops

  @Override
  public Void visitForLoop(ForLoopTree tree, Void nothing) {
    check(tree.getCondition() != null && !tree.getUpdate().isEmpty(), "rule 9: the loop's end is not seen: " + tree);
    return super.visitForLoop(tree, nothing);
  }

  @Override
  public Void visitWhileLoop(WhileLoopTree tree, Void nothing) {
    checkCondition(tree.getCondition());
    return super.visitWhileLoop(tree, nothing);
  }

  @Override
  public Void visitDoWhileLoop(DoWhileLoopTree tree, Void nothing) {
    checkCondition(tree.getCondition());
    return super.visitDoWhileLoop(tree, nothing);
  }

  private void checkCondition(ExpressionTree condition) {
    ExpressionTree inner = condition instanceof ParenthesizedTree around ? around.getExpression() : condition;
    boolean hasBound = inner.toString().matches(".*[<>].*");
    check(!(inner instanceof LiteralTree) && hasBound, "rule 9: the loop's end is not seen: while " + condition);
  }

  // ---- operators

  @Override
  public Void visitBinary(BinaryTree tree, Void nothing) {
    boolean hasText = isText(tree.getLeftOperand()) || isText(tree.getRightOperand());
    check(!hasText, "rules 6 and 10: " + tree);
    if (tree.getKind() == Tree.Kind.DIVIDE || tree.getKind() == Tree.Kind.REMAINDER) {
      check(isTestedDivisor(tree.getRightOperand()), "rule 7: the divisor of " + tree);
    }
    return super.visitBinary(tree, nothing);
  }

  @Override
  public Void visitCompoundAssignment(CompoundAssignmentTree tree, Void nothing) {
    check(!isText(tree.getVariable()), "rule 10: " + tree);
    if (tree.getKind() == Tree.Kind.DIVIDE_ASSIGNMENT || tree.getKind() == Tree.Kind.REMAINDER_ASSIGNMENT) {
      check(isTestedDivisor(tree.getExpression()), "rule 7: the divisor of " + tree);
    }
    return super.visitCompoundAssignment(tree, nothing);
  }

  private boolean isText(ExpressionTree tree) {
    return typeOf(tree).toString().equals("java.lang.String");
  }

  /** A number that is not 0, or a name that the same method compares with 0. */
  private boolean isTestedDivisor(ExpressionTree divisor) {
    if (divisor instanceof LiteralTree number) {
      return ((Number) number.getValue()).longValue() != 0;
    }
    Element named = trees.getElement(new TreePath(getCurrentPath(), divisor));
    if (named instanceof VariableElement variable && variable.getConstantValue() instanceof Number number) {
      return number.longValue() != 0;
    }
    return named != null && methodTree.toString().contains(divisor + " == 0");
  }
}
