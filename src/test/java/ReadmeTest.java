import java.io.File;
import java.io.IOException;
import java.lang.reflect.Method;
import java.lang.reflect.Modifier;
import java.net.URL;
import java.net.URLClassLoader;
import java.nio.file.Files;
import java.nio.file.Path;
import java.util.regex.Matcher;
import java.util.regex.Pattern;
import javax.tools.JavaCompiler;
import javax.tools.ToolProvider;

/** README.md's example compiles and answers what its comments say; every call of the face and every test is named. */
public final class ReadmeTest {
  private static final Pattern EXAMPLE = Pattern.compile("(?s)```java\n(.*?)```");
  private static final Pattern CALL = Pattern.compile("(?m)^ +x\\.(\\w+\\(.*?\\)); +// (true|false|-?\\d+)(?!\\w).*$");
  private static int checks = 0;
  private static int wrong = 0;

  public static void main(String[] args) throws Exception {
    String readme = Files.readString(Path.of("README.md"));
    Matcher example = EXAMPLE.matcher(readme);
    holds(example.find(), "there is no example");
    runExample(checked(example.group(1)));
    holds(checks > 20, "only " + checks + " calls of the example were checked");
    nameAll(readme);
    System.out.println("readme: " + checks + " answers of its example, " + wrong + " wrong");
    if (wrong > 0) System.exit(1);
  }

  private static void holds(boolean is, String what) {
    if (!is) {
      wrong++;
      System.out.println("README.md: " + what);
    }
  }

  public static void due(String call, long got, long want) {
    checks++;
    holds(got == want, call + " answered " + got + ", not " + want);
  }

  public static void due(String call, boolean got, boolean want) {
    due(call, got ? 1 : 0, want ? 1 : 0);
  }

  /** The example with each call that has an answer behind it turned into a check of that answer. */
  private static String checked(String example) {
    String main = example.substring(example.indexOf("void main("));
    String head = example.substring(0, example.length() - main.length());
    String tried = CALL.matcher(main).replaceAll("ReadmeTest.due(\"$1\", x.$1, $2);");
    holds(!Pattern.compile("(?m)^ *x\\.").matcher(tried).find(), "a call has no answer behind it");
    return head + tried;
  }

  private static void runExample(String source) throws Exception {
    Path dir = Files.createTempDirectory("readme");
    Path file = dir.resolve("Example.java");
    Files.writeString(file, source);
    JavaCompiler javac = ToolProvider.getSystemJavaCompiler();
    int failed = javac.run(null, null, null, "-cp", System.getProperty("java.class.path"), "-d", dir.toString(), file.toString());
    holds(failed == 0, "the example does not compile");
    if (failed == 0) {
      try (URLClassLoader loader = new URLClassLoader(new URL[] {dir.toUri().toURL()}, ReadmeTest.class.getClassLoader())) {
        loader.loadClass("Example").getMethod("main", String[].class).invoke(null, (Object) new String[0]);
      }
    }
    remove(dir.toFile());
  }

  private static void remove(File dir) throws IOException {
    File[] inside = dir.listFiles();
    for (File file : inside == null ? new File[0] : inside) Files.delete(file.toPath());
    Files.delete(dir.toPath());
  }

  private static void nameAll(String readme) {
    for (Method m : SoldToBehind.class.getDeclaredMethods()) {
      if (Modifier.isPublic(m.getModifiers())) {
        Matcher row = Pattern.compile("(?m)^\\| [^|]*`" + m.getName() + "\\(([^)]*)\\)`").matcher(readme);
        boolean found = row.find();
        holds(found, "no row of a table tells of " + m.getName() + "()");
        int told = !found || row.group(1).isEmpty() ? 0 : row.group(1).split(",").length;
        holds(!found || told == m.getParameterCount(), m.getName() + "() has " + m.getParameterCount() + " arguments, told are " + told);
      }
    }
    for (Class<?> inside : SoldToBehind.class.getDeclaredClasses()) {
      holds(readme.contains("`" + inside.getSimpleName() + "`"), "the class " + inside.getSimpleName() + " is not named");
    }
    String[] tests = new File("src/test/java").list((dir, name) -> name.endsWith("Test.java"));
    for (String test : tests == null ? new String[0] : tests) {
      holds(readme.contains("`" + test.replace(".java", "") + "`"), "the test " + test + " is not named");
    }
  }
}
