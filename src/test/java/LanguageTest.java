import com.sun.source.tree.BinaryTree;
import com.sun.source.tree.ClassTree;
import com.sun.source.tree.CompilationUnitTree;
import com.sun.source.tree.ExpressionTree;
import com.sun.source.tree.IdentifierTree;
import com.sun.source.tree.ImportTree;
import com.sun.source.tree.LiteralTree;
import com.sun.source.tree.MemberSelectTree;
import com.sun.source.tree.MethodInvocationTree;
import com.sun.source.tree.MethodTree;
import com.sun.source.tree.NewClassTree;
import com.sun.source.tree.ThrowTree;
import com.sun.source.tree.Tree;
import com.sun.source.tree.VariableTree;
import com.sun.source.util.JavacTask;
import com.sun.source.util.SourcePositions;
import com.sun.source.util.TreeScanner;
import com.sun.source.util.Trees;
import java.io.File;
import java.util.HashMap;
import java.util.HashSet;
import java.util.Map;
import java.util.Set;
import javax.lang.model.element.Modifier;
import javax.tools.JavaCompiler;
import javax.tools.StandardJavaFileManager;
import javax.tools.ToolProvider;

/** Looks through the class for what ../shared/LANGUAGE.md rules out, as far as its text shows it. */
public final class LanguageTest extends TreeScanner<Void, Void> {
  private static final Set<String> IMPORTS =
      Set.of("java.util.Arrays", "java.util.ArrayList", "java.util.List", "java.util.NoSuchElementException");
  private static final Set<String> LIBRARY = Set.of("Arrays.fill", "Arrays.copyOf", "Arrays.copyOfRange",
      "System.arraycopy", "Math.max", "Math.min", "Math.abs", "Math.floorDiv", "Math.floorMod");
  private static final Set<String> LIBRARY_CLASSES =
      Set.of("Arrays", "System", "Math", "Integer", "Long", "String", "Thread", "Runtime", "Objects");
  private static final Set<String> EXCEPTIONS = Set.of("IllegalStateException", "IllegalArgumentException",
      "IndexOutOfBoundsException", "ArithmeticException", "UnsupportedOperationException",
      "NoSuchElementException", "RuntimeException");
  private static final Set<Tree.Kind> RULED_OUT = Set.of(Tree.Kind.LAMBDA_EXPRESSION, Tree.Kind.MEMBER_REFERENCE,
      Tree.Kind.SYNCHRONIZED, Tree.Kind.ASSERT, Tree.Kind.TRY, Tree.Kind.PACKAGE);
  private static final int MOST_LINES = 60;
  private static final int MOST_CLASSES = 12;
  private static final int MOST_FIELDS = 20;
  private static final int MOST_PARAMETERS = 7;
  private static final int DEEPEST = 8;

  private final Map<String, Set<String>> callsOf = new HashMap<>();
  private CompilationUnitTree unit;
  private SourcePositions positions;
  private int classes;
  private int methods;
  private int wrong;
  private String method = "";
  private boolean isConstructor;

  public static void main(String[] args) throws Exception {
    JavaCompiler compiler = ToolProvider.getSystemJavaCompiler();
    LanguageTest test = new LanguageTest();
    try (StandardJavaFileManager files = compiler.getStandardFileManager(null, null, null)) {
      JavacTask task = (JavacTask) compiler.getTask(null, files, null, null, null,
          files.getJavaFileObjects(new File("src/main/java/ScanningHouse.java")));
      test.unit = task.parse().iterator().next();
      test.positions = Trees.instance(task).getSourcePositions();
    }
    test.scan(test.unit, null);
    test.check(test.classes <= MOST_CLASSES, "there are " + test.classes + " classes");
    for (String name : test.callsOf.keySet()) {
      int depth = test.depthOf(name, new HashSet<>());
      test.check(depth <= DEEPEST, name + " goes " + depth + " calls deep");
    }
    System.out.println("LanguageTest: " + test.methods + " methods, " + test.wrong + " wrong");
    System.exit(test.wrong == 0 && test.methods > 0 ? 0 : 1);
  }

  private void check(boolean is, String text) {
    if (!is) {
      wrong++;
      System.out.println("LANGUAGE.md: " + text);
    }
  }

  /** How many calls are open at once from this one on; a method that calls itself counts once. */
  private int depthOf(String name, Set<String> open) {
    int below = 0;
    if (callsOf.containsKey(name) && open.add(name)) {
      for (String called : callsOf.get(name)) {
        below = Math.max(below, depthOf(called, open));
      }
      open.remove(name);
      return below + 1;
    }
    return 0;
  }

  @Override
  public Void scan(Tree tree, Void nothing) {
    if (tree != null) {
      check(!RULED_OUT.contains(tree.getKind()), tree.getKind() + " in " + method);
    }
    return super.scan(tree, nothing);
  }

  @Override
  public Void visitImport(ImportTree tree, Void nothing) {
    check(IMPORTS.contains(tree.getQualifiedIdentifier().toString()), "rule 4: " + tree);
    return null;
  }

  @Override
  public Void visitClass(ClassTree tree, Void nothing) {
    Set<Modifier> flags = tree.getModifiers().getFlags();
    boolean isOuter = tree.getSimpleName().contentEquals("ScanningHouse");
    classes++;
    check(!isOuter || flags.equals(Set.of(Modifier.PUBLIC, Modifier.FINAL)), "rule 1: the class is public and final");
    check(isOuter || flags.contains(Modifier.STATIC) && !flags.contains(Modifier.PUBLIC), "rule 1: " + tree.getSimpleName());
    int fields = 0;
    for (Tree member : tree.getMembers()) {
      if (member instanceof VariableTree field) {
        Set<Modifier> fieldFlags = field.getModifiers().getFlags();
        boolean isStatic = fieldFlags.contains(Modifier.STATIC);
        check(!isStatic || fieldFlags.contains(Modifier.FINAL), "rule 5: " + field);
        fields += isStatic ? 0 : 1;
      }
    }
    check(fields <= MOST_FIELDS, "rule 11: " + fields + " fields in " + tree.getSimpleName());
    return super.visitClass(tree, nothing);
  }

  @Override
  public Void visitMethod(MethodTree tree, Void nothing) {
    methods++;
    isConstructor = tree.getReturnType() == null;
    method = tree.getName().toString();
    callsOf.computeIfAbsent(method, name -> new HashSet<>());
    check(tree.getParameters().size() <= MOST_PARAMETERS, "rule 11: parameters of " + method);
    long first = unit.getLineMap().getLineNumber(positions.getStartPosition(unit, tree));
    long last = unit.getLineMap().getLineNumber(positions.getEndPosition(unit, tree));
    check(last - first < MOST_LINES, "rule 11: lines of " + method);
    return super.visitMethod(tree, nothing);
  }

  @Override
  public Void visitMethodInvocation(MethodInvocationTree tree, Void nothing) {
    ExpressionTree called = tree.getMethodSelect();
    if (called instanceof IdentifierTree own) {
      callsOf.get(method).add(own.getName().toString());
    } else if (called instanceof MemberSelectTree select) {
      boolean isLibrary = LIBRARY_CLASSES.contains(select.getExpression().toString());
      check(!isLibrary || LIBRARY.contains(select.toString()), "rule 4: " + select);
      if (!isLibrary) {
        callsOf.get(method).add(select.getIdentifier().toString());
      }
    }
    return super.visitMethodInvocation(tree, nothing);
  }

  @Override
  public Void visitThrow(ThrowTree tree, Void nothing) {
    check(!isConstructor, "rule 6: a throw in a constructor");
    boolean isPlain = tree.getExpression() instanceof NewClassTree made
        && EXCEPTIONS.contains(made.getIdentifier().toString())
        && (made.getArguments().isEmpty()
            || made.getArguments().size() == 1 && made.getArguments().get(0) instanceof LiteralTree);
    check(isPlain, "rule 6: " + tree);
    return super.visitThrow(tree, nothing);
  }

  @Override
  public Void visitBinary(BinaryTree tree, Void nothing) {
    boolean hasText = tree.getLeftOperand().getKind() == Tree.Kind.STRING_LITERAL
        || tree.getRightOperand().getKind() == Tree.Kind.STRING_LITERAL;
    check(!hasText, "rule 10: " + tree);
    return super.visitBinary(tree, nothing);
  }
}
