import java.io.IOException;
import java.lang.reflect.InvocationTargetException;
import java.lang.reflect.Method;
import java.lang.reflect.Modifier;
import java.nio.file.DirectoryStream;
import java.nio.file.Files;
import java.nio.file.Path;
import java.util.regex.Matcher;
import java.util.regex.Pattern;

/** What README.md says is so: its calls answer what stands behind them, and it names all methods and tests. */
public final class ReadmeTest {
  private static final Pattern CALL = Pattern.compile("x\\.(\\w+)\\((.*?)\\); +// (\"[^\"]*\"|[^:]*)(: .*)?");

  private final Gridmender x = new Gridmender();
  private final Checks checks = new Checks();

  public static void main(String[] args) throws IOException {
    ReadmeTest test = new ReadmeTest();
    test.look(Files.readString(Path.of(args[0], "README.md")), Path.of(args[0]));
    test.checks.end();
  }

  private void look(String page, Path root) throws IOException {
    checks.part("README.md");
    answersAsItSays(page);
    for (Method m : Gridmender.class.getDeclaredMethods()) {
      if (Modifier.isPublic(m.getModifiers())) {
        names(page, m.getName());
      }
    }
    for (String folder : new String[] {"src/main/java", "src/test/java", ".ci"}) {
      checks.due("there is " + folder, true, () -> Files.isDirectory(root.resolve(folder)));
    }
    try (DirectoryStream<Path> tests = Files.newDirectoryStream(root.resolve("src/test/java"), "*{Test,Sentences}.java")) {
      for (Path test : tests) {
        names(page, test.getFileName().toString().replace(".java", ""));
      }
    }
    names(page, "src/main/java/Gridmender.java");
    checks.due("names .ci/run", true, () -> page.contains("\n    .ci/run\n"));
    checks.due(".ci/run can be run", true, () -> Files.isExecutable(root.resolve(".ci/run")));
  }

  private void names(String page, String name) {
    checks.due("names " + name, true, () -> page.contains("`" + name + "`"));
  }

  private void answersAsItSays(String page) {
    int start = page.indexOf("```java\n");
    String[] rows = page.substring(start + 8, page.indexOf("```", start + 8)).split("\n");
    checks.due("the first row", "Gridmender x = new Gridmender();", () -> rows[0]);
    for (int i = 1; i < rows.length; i++) {
      String row = rows[i];
      Matcher call = CALL.matcher(row);
      boolean isCall = call.matches();
      checks.due("is a call with its answer: " + row, true, () -> isCall);
      if (isCall) {
        checks.due(row, call.group(3), () -> ask(call.group(1), call.group(2).split(", ")));
      }
    }
  }

  private Object ask(String name, String[] words) {
    for (Method m : Gridmender.class.getDeclaredMethods()) {
      if (m.getName().equals(name) && Modifier.isPublic(m.getModifiers()) && m.getParameterCount() == words.length) {
        return answer(m, words);
      }
    }
    return "no such call";
  }

  private Object answer(Method m, String[] words) {
    Object[] arguments = new Object[words.length];
    for (int i = 0; i < words.length; i++) {
      boolean isFlag = m.getParameterTypes()[i] == boolean.class;
      arguments[i] = isFlag ? (Object) Boolean.valueOf(words[i]) : (Object) Integer.valueOf(words[i]);
    }
    try {
      Object got = m.invoke(x, arguments);
      return got instanceof String ? "\"" + got + "\"" : got;
    } catch (InvocationTargetException e) {
      return "throws " + e.getCause().getClass().getSimpleName();
    } catch (IllegalAccessException e) {
      return "can't be called";
    }
  }
}
