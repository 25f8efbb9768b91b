import java.io.IOException;
import java.lang.reflect.Method;
import java.lang.reflect.Modifier;
import java.net.URL;
import java.net.URLClassLoader;
import java.nio.file.Files;
import java.nio.file.Path;
import java.util.ArrayList;
import java.util.Comparator;
import java.util.List;
import java.util.regex.Matcher;
import java.util.regex.Pattern;
import java.util.stream.Stream;
import javax.tools.ToolProvider;

/** README.md: its code compiles, its calls answer as it says behind them, and it names every call. */
public final class ReadmeTest {
  private static final Check CHECK = new Check("ReadmeTest");
  private static final Pattern BLOCK = Pattern.compile("```java\n(.*?)```", Pattern.DOTALL);
  private static final Pattern ANSWERED = Pattern.compile("(.+\\));\\s+// (-?\\d+): .+");

  private static List<String> blocks(String page) {
    List<String> all = new ArrayList<>();
    Matcher block = BLOCK.matcher(page);
    while (block.find()) {
      all.add(block.group(1));
    }
    return all;
  }

  /** A call that tells its answer becomes one that puts it into a list, as pairs of due and got. */
  private static String withAnswers(String example) {
    StringBuilder code = new StringBuilder();
    for (String line : example.split("\n")) {
      Matcher row = ANSWERED.matcher(line);
      code.append(row.matches() ? "got.add(new long[] {" + row.group(2) + "L, " + row.group(1) + "});" : line).append('\n');
    }
    return code.toString();
  }

  private static long rowsOf(String example) {
    return example.lines().filter(line -> line.contains("//")).count();
  }

  private static void compile(Path dir, String helper, String example) throws IOException {
    Path file = dir.resolve("ReadmeExample.java");
    Files.writeString(file, "public final class ReadmeExample {\n" + helper
        + "public static void fill(java.util.List<long[]> got) {\n" + withAnswers(example) + "}\n}\n");
    int code = ToolProvider.getSystemJavaCompiler().run(null, null, null, "-d", dir.toString(),
        "-cp", System.getProperty("java.class.path"), file.toString());
    CHECK.due("the code compiles", 0, code);
  }

  private static void runExample(String helper, String example) throws IOException, ReflectiveOperationException {
    Path dir = Files.createTempDirectory("readme");
    List<long[]> got = new ArrayList<>();
    compile(dir, helper, example);
    try (URLClassLoader loader = new URLClassLoader(new URL[] {dir.toUri().toURL()})) {
      loader.loadClass("ReadmeExample").getMethod("fill", List.class).invoke(null, got);
    }
    CHECK.due("every answer that is told is asked for", rowsOf(example), got.size());
    for (int i = 0; i < got.size(); i++) {
      CHECK.due("answer " + i + " of the example", got.get(i)[0], got.get(i)[1]);
    }
    try (Stream<Path> files = Files.walk(dir)) {
      for (Path file : files.sorted(Comparator.reverseOrder()).toList()) {
        Files.delete(file);
      }
    }
  }

  private static void namesEveryCall(String page) {
    for (Method method : OneAnger.class.getDeclaredMethods()) {
      if (Modifier.isPublic(method.getModifiers())) {
        CHECK.due("names " + method.getName(), 1, page.contains("`" + method.getName() + "`") ? 1 : 0);
      }
    }
  }

  public static void main(String[] args) throws IOException, ReflectiveOperationException {
    String page = Files.readString(Path.of("README.md"));
    List<String> blocks = blocks(page);
    CHECK.due("blocks of code", 2, blocks.size());
    runExample(blocks.get(0), blocks.get(1));
    namesEveryCall(page);
    CHECK.end();
  }
}
