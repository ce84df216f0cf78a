import java.io.IOException;
import java.lang.reflect.InvocationTargetException;
import java.lang.reflect.Method;
import java.lang.reflect.Modifier;
import java.net.URL;
import java.net.URLClassLoader;
import java.nio.file.Files;
import java.nio.file.Path;
import java.util.regex.Matcher;
import java.util.regex.Pattern;
import javax.tools.ToolProvider;

/** README.md: its examples answer what stands behind them, and it tells of each call. */
public final class ReadmeTest {
  private static final Path README = Path.of("README.md");
  private static final Path OUT = Path.of("build/readme");
  private static final Pattern EXAMPLE = Pattern.compile("(?s)```java\n(.*?)```");
  private static final Pattern ANSWERED =
      Pattern.compile("(?m)^(\\w+\\.\\w+\\(.*\\)); +// (-?\\d+)\\b.*$");
  private static final Pattern UNANSWERED =
      Pattern.compile("(?m)^(?!due\\.is)\\w+\\.\\w+\\(.*\\);.*$");
  private static final Pattern TOLD = Pattern.compile("`(\\w+)\\(([^)`]*)\\)`");
  private static final int LEAST_EXAMPLES = 3;

  private static final Due due = new Due();

  public static void main(String[] args) throws Exception {
    String text = Files.readString(README);
    examples(text);
    everyCallIsTold(text);
    wrongCallsAreNone(text);
    due.end();
  }

  private static void examples(String text) throws Exception {
    Matcher example = EXAMPLE.matcher(text);
    int many = 0;
    while (example.find()) {
      due.begin("example " + many);
      runExample("ReadmeExample" + many, example.group(1));
      many++;
    }
    due.begin("README.md");
    due.is("examples, " + LEAST_EXAMPLES + " or more", many >= LEAST_EXAMPLES ? 1 : 0, 1);
  }

  /** The lines as they stand, but that each call with an answer behind it is asked for that one. */
  private static void runExample(String name, String lines) throws Exception {
    StringBuilder asking = new StringBuilder();
    Matcher call = ANSWERED.matcher(lines);
    int answers = 0;
    while (call.find()) {
      String quoted = call.group(1).replace("\\", "\\\\").replace("\"", "\\\"");
      String asked = "due.is(\"" + quoted + "\", " + call.group(1) + ", " + call.group(2) + ");";
      call.appendReplacement(asking, Matcher.quoteReplacement(asked));
      answers++;
    }
    call.appendTail(asking);
    due.is("calls with an answer behind them", answers > 0 ? 1 : 0, 1);
    due.is("calls without one", UNANSWERED.matcher(asking).find() ? 1 : 0, 0);
    String source = "public final class " + name + " {\n  public static void run(Due due) {\n"
        + asking + "  }\n}\n";
    invoke(name, source);
  }

  private static void invoke(String name, String source) throws Exception {
    int broken = compile(name, source);
    due.is("it compiles", broken, 0);
    if (broken != 0) {
      return;
    }
    URL[] where = {OUT.toUri().toURL()};
    try (URLClassLoader loader = new URLClassLoader(where, ReadmeTest.class.getClassLoader())) {
      Method run = loader.loadClass(name).getMethod("run", Due.class);
      run.invoke(null, due);
    } catch (InvocationTargetException thrown) {
      due.is("it threw " + thrown.getCause(), 1, 0);
    }
  }

  private static int compile(String name, String source) throws IOException {
    Files.createDirectories(OUT);
    Path file = OUT.resolve(name + ".java");
    Files.writeString(file, source);
    return ToolProvider.getSystemJavaCompiler().run(null, null, null, "-encoding", "UTF-8",
        "-implicit:none", "-d", OUT.toString(), "-cp", System.getProperty("java.class.path"),
        file.toString());
  }

  private static void everyCallIsTold(String text) {
    due.begin("README.md tells of");
    for (Method m : StairRow.class.getDeclaredMethods()) {
      if (Modifier.isPublic(m.getModifiers())) {
        int many = m.getParameterCount();
        due.is(m.getName() + " with " + many, isTold(text, m.getName(), many) ? 1 : 0, 1);
      }
    }
  }

  private static boolean isTold(String text, String name, int arguments) {
    Matcher told = TOLD.matcher(text);
    while (told.find()) {
      if (told.group(1).equals(name) && arguments(told.group(2)) == arguments) {
        return true;
      }
    }
    return false;
  }

  /** What looks like a call there is one, so that a name that is mistyped is found. */
  private static void wrongCallsAreNone(String text) {
    due.begin("README.md speaks of a call that there isn't");
    Matcher told = TOLD.matcher(text);
    while (told.find()) {
      boolean is = false;
      for (Method m : StairRow.class.getDeclaredMethods()) {
        is |= Modifier.isPublic(m.getModifiers()) && m.getName().equals(told.group(1));
      }
      due.is(told.group(), is ? 0 : 1, 0);
    }
  }

  private static int arguments(String list) {
    return list.isBlank() ? 0 : list.split(",").length;
  }
}
