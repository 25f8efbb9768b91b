import com.sun.source.tree.ClassTree;
import com.sun.source.tree.CompilationUnitTree;
import com.sun.source.tree.IdentifierTree;
import com.sun.source.tree.ImportTree;
import com.sun.source.tree.LineMap;
import com.sun.source.tree.MemberSelectTree;
import com.sun.source.tree.MethodInvocationTree;
import com.sun.source.tree.MethodTree;
import com.sun.source.tree.NewClassTree;
import com.sun.source.tree.Tree;
import com.sun.source.tree.VariableTree;
import com.sun.source.util.JavacTask;
import com.sun.source.util.SourcePositions;
import com.sun.source.util.TreeScanner;
import com.sun.source.util.Trees;
import java.io.IOException;
import java.nio.file.Path;
import java.util.HashMap;
import java.util.HashSet;
import java.util.List;
import java.util.Map;
import java.util.Set;
import java.util.TreeSet;
import javax.lang.model.element.Modifier;
import javax.tools.JavaCompiler;
import javax.tools.StandardJavaFileManager;
import javax.tools.ToolProvider;

/** The rules of LANGUAGE.md that can be read off the tree of the source. */
public final class LanguageTest {
  private static final Check CHECK = new Check("LanguageTest");
  private static final Set<Tree.Kind> FORBIDDEN = Set.of(Tree.Kind.THROW, Tree.Kind.TRY, Tree.Kind.CATCH,
      Tree.Kind.SYNCHRONIZED, Tree.Kind.ASSERT, Tree.Kind.LAMBDA_EXPRESSION, Tree.Kind.MEMBER_REFERENCE);
  private static final Set<String> LIBRARY = Set.of("System.arraycopy", "Arrays.fill", "Integer.bitCount",
      "Integer.numberOfTrailingZeros", "Long.bitCount", "Math.min", "Math.max", "Math.abs", "name.length", "name.charAt");
  private static final Set<String> FACE = Set.of("feed", "end", "village", "fault", "rule", "one", "set", "old", "got",
      "point", "rest", "would", "worth", "whom", "wrong", "go", "now", "run", "peace", "again", "two", "were", "open",
      "fewest", "always", "where", "hire", "price", "ring", "odds", "mean", "likeliest", "keep", "back", "sheet", "lay",
      "read", "torn", "count");

  private static final class Rules extends TreeScanner<Void, Void> {
    final CompilationUnitTree unit;
    final SourcePositions places;
    final Map<String, Set<String>> calls = new HashMap<>();
    final Set<String> methods = new HashSet<>();
    final Set<String> outside = new TreeSet<>();
    int classes = 0;
    private String in = "";

    Rules(CompilationUnitTree unit, SourcePositions places) {
      this.unit = unit;
      this.places = places;
    }

    private int linesOf(Tree tree) {
      LineMap map = unit.getLineMap();
      return (int) (map.getLineNumber(places.getEndPosition(unit, tree))
          - map.getLineNumber(places.getStartPosition(unit, tree)) + 1);
    }

    @Override
    public Void scan(Tree tree, Void v) {
      if (tree != null && FORBIDDEN.contains(tree.getKind())) {
        CHECK.due("rule 2, 6: " + tree.getKind(), 0, 1);
      }
      return super.scan(tree, v);
    }

    @Override
    public Void visitClass(ClassTree tree, Void v) {
      classes++;
      boolean outer = tree.getSimpleName().contentEquals("OneAnger");
      if (!outer && !tree.getModifiers().getFlags().contains(Modifier.STATIC)) {
        CHECK.due("rule 2: " + tree.getSimpleName() + " is static", 1, 0);
      }
      int fields = 0;
      for (Tree member : tree.getMembers()) {
        if (member instanceof VariableTree field) {
          boolean constant = field.getModifiers().getFlags().contains(Modifier.STATIC);
          fields += constant ? 0 : 1;
          if (constant && !field.getModifiers().getFlags().contains(Modifier.FINAL)) {
            CHECK.due("rule 5: " + field.getName() + " is final", 1, 0);
          }
          if (outer) {
            lookAtMember(field.getName().toString(), field.getModifiers().getFlags(),
                Set.of("BAD", "STATE", "FULL", "NONE"));
          }
        } else if (outer && member instanceof MethodTree method && !method.getName().contentEquals("<init>")) {
          lookAtMember(method.getName().toString(), method.getModifiers().getFlags(), FACE);
        }
      }
      CHECK.due("rule 11: fields of " + tree.getSimpleName(), 1, fields <= 20 ? 1 : 0);
      return super.visitClass(tree, v);
    }

    private static void lookAtMember(String name, Set<Modifier> flags, Set<String> face) {
      Modifier due = face.contains(name) ? Modifier.PUBLIC : Modifier.PRIVATE;
      CHECK.due("rule 1: " + name + " is " + due, 1, flags.contains(due) ? 1 : 0);
    }

    @Override
    public Void visitMethod(MethodTree tree, Void v) {
      String before = in;
      in = tree.getName().toString();
      methods.add(in);
      CHECK.due("rule 11: lines of " + in, 1, linesOf(tree) <= 60 ? 1 : 0);
      CHECK.due("rule 11: parameters of " + in, 1, tree.getParameters().size() <= 7 ? 1 : 0);
      super.visitMethod(tree, v);
      in = before;
      return null;
    }

    @Override
    public Void visitMethodInvocation(MethodInvocationTree tree, Void v) {
      Tree select = tree.getMethodSelect();
      String name = select instanceof MemberSelectTree member ? member.getIdentifier().toString()
          : ((IdentifierTree) select).getName().toString();
      calls.computeIfAbsent(in, key -> new HashSet<>()).add(name);
      outside.add(select.toString());
      return super.visitMethodInvocation(tree, v);
    }

    @Override
    public Void visitNewClass(NewClassTree tree, Void v) {
      CHECK.due("rule 2: a class without a name", 1, tree.getClassBody() == null ? 1 : 0);
      return super.visitNewClass(tree, v);
    }

    @Override
    public Void visitImport(ImportTree tree, Void v) {
      CHECK.due("rule 4: " + tree, 1, tree.toString().contains("java.util.Arrays;") ? 1 : 0);
      return super.visitImport(tree, v);
    }

    private int depth(String name, int above) {
      int deepest = 1;
      for (String called : calls.getOrDefault(name, Set.of())) {
        if (above > 20) {
          return 100;
        }
        deepest = Math.max(deepest, 1 + depth(called, above + 1));
      }
      return deepest;
    }

    void lookAtCalls() {
      for (String name : methods) {
        CHECK.due("rule 11: calls from " + name + " are " + depth(name, 0) + " deep", 1, depth(name, 0) <= 8 ? 1 : 0);
      }
      for (String call : outside) {
        String name = call.substring(call.lastIndexOf('.') + 1);
        if (!methods.contains(name) && !name.equals("super")) {
          CHECK.due("rule 4: " + call + " is in the library", 1, LIBRARY.contains(call) ? 1 : 0);
        }
      }
      CHECK.due("rule 11: classes", 1, classes <= 12 ? 1 : 0);
      CHECK.due("rule 1: the whole face", 1, methods.containsAll(FACE) ? 1 : 0);
    }
  }

  public static void main(String[] args) throws IOException {
    JavaCompiler compiler = ToolProvider.getSystemJavaCompiler();
    try (StandardJavaFileManager files = compiler.getStandardFileManager(null, null, null)) {
      JavacTask task = (JavacTask) compiler.getTask(null, files, null, null, null,
          files.getJavaFileObjects(Path.of("src/main/java/OneAnger.java")));
      List<CompilationUnitTree> units = new java.util.ArrayList<>();
      task.parse().forEach(units::add);
      CHECK.due("one file", 1, units.size());
      Rules rules = new Rules(units.get(0), Trees.instance(task).getSourcePositions());
      CHECK.due("rule 1: no package", 1, units.get(0).getPackageName() == null ? 1 : 0);
      rules.scan(units.get(0), null);
      rules.lookAtCalls();
    }
    CHECK.end();
  }
}
