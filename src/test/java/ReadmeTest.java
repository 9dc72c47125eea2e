import java.lang.reflect.Method;
import java.lang.reflect.Modifier;
import java.net.URL;
import java.net.URLClassLoader;
import java.nio.file.Files;
import java.nio.file.Path;
import java.util.regex.Matcher;
import java.util.regex.Pattern;
import javax.tools.ToolProvider;

/** The examples of README.md are compiled and run: each call has to answer the number that stands behind it. */
public final class ReadmeTest {
  private static final Pattern BLOCK = Pattern.compile("(?s)```java\n(.*?)```");
  private static final Pattern TOLD = Pattern.compile("(?m)^((?:x\\.|say\\().*\\));\\s+// (-?\\d+)(:.*)?$");
  private static int answers = 0;

  /** Called by the examples. */
  public static void due(String call, long got, long want) {
    answers++;
    Support.due("README " + call, got, want);
  }

  /** Blocks with methods stand as they are; all others are one run, on one object. */
  private static String program(String readme) {
    StringBuilder methods = new StringBuilder();
    StringBuilder run = new StringBuilder();
    Matcher block = BLOCK.matcher(readme);
    while (block.find()) {
      if (block.group(1).startsWith("static ")) methods.append(block.group(1));
      else run.append(block.group(1));
    }
    Matcher told = TOLD.matcher(run);
    StringBuilder checked = new StringBuilder();
    while (told.find()) {
      String name = told.group(1).replace("\\", "\\\\").replace("\"", "\\\"");
      told.appendReplacement(checked, Matcher.quoteReplacement("ReadmeTest.due(\"" + name + "\", " + told.group(1) + ", " + told.group(2) + "L);"));
    }
    told.appendTail(checked);
    return "public final class Examples {\n" + methods + "public static void main(String[] args) {\n" + checked + "}\n}\n";
  }

  private static void run(String program) throws Exception {
    Path home = Files.createTempDirectory("examples");
    Path file = home.resolve("Examples.java");
    Files.writeString(file, program);
    int failed = ToolProvider.getSystemJavaCompiler().run(null, null, null, "-cp", System.getProperty("java.class.path"), "-d", home.toString(), file.toString());
    Support.due("the examples are compiled", failed, 0);
    if (failed == 0) {
      try (URLClassLoader loader = new URLClassLoader(new URL[] {home.toUri().toURL()}, ReadmeTest.class.getClassLoader())) {
        loader.loadClass("Examples").getMethod("main", String[].class).invoke(null, (Object) new String[0]);
      }
    }
    Files.deleteIfExists(home.resolve("Examples.class"));
    Files.deleteIfExists(file);
    Files.deleteIfExists(home);
  }

  public static void main(String[] args) throws Exception {
    String readme = Files.readString(Path.of("README.md"));
    String program = program(readme);
    run(program);
    Support.due("each call of the examples has its answer", answers, Pattern.compile("(?m)^(x\\.|say\\(|.*ReadmeTest\\.due)").matcher(program).results().count());
    Support.so("some examples: " + answers, answers > 30);
    for (Method m : NoSecond.class.getDeclaredMethods()) {
      if (Modifier.isPublic(m.getModifiers())) Support.so("README names " + m.getName(), readme.contains("`" + m.getName() + "`"));
    }
    for (String file : new String[] {".ci/run", "src/main/java/NoSecond.java", "../shared/DOC.md", "../shared/LANGUAGE.md", "../shared/tests"}) {
      Support.so("README names " + file, readme.contains(file) && Files.exists(Path.of(file)));
    }
    try (var tests = Files.newDirectoryStream(Path.of("src/test/java"), "*Test.java")) {
      for (Path t : tests) Support.so("README names " + t, readme.contains("`" + t.getFileName().toString().replace(".java", "") + "`"));
    }
    Support.close("ReadmeTest");
  }
}
