import java.io.IOException;
import java.lang.reflect.Constructor;
import java.lang.reflect.Field;
import java.lang.reflect.Method;
import java.lang.reflect.Modifier;
import java.lang.reflect.Parameter;
import java.nio.file.Files;
import java.nio.file.Path;
import java.util.ArrayList;
import java.util.Collections;
import java.util.List;
import java.util.regex.Pattern;

/** The face as the document has it, and those rules of the language that a look at the text shows. */
public final class FaceTest {
  private static final String[] BANNED = {
    "->", "::", "\\bimport\\b", "\\bpackage\\b", "\\btry\\b", "\\bcatch\\b", "\\bfinally\\b", "\\bassert\\b",
    "\\bsynchronized\\b", "\\bvar\\b", "Exact\\b", "\\bSystem\\.", "\\bObject\\b", "\\bRandom\\b", "\\bfor \\(;",
    "while \\(true\\)"
  };

  public static void main(String[] args) throws IOException {
    Checks checks = new Checks();
    checks.part("the face");
    List<String> want = documented(Files.readString(Path.of(args[1], "DOC.md")));
    List<String> got = declared();
    checks.due("how many members", want.size(), got::size);
    for (int i = 0; i < Math.max(want.size(), got.size()); i++) {
      String member = i < got.size() ? got.get(i) : "none";
      checks.due("member " + i, i < want.size() ? want.get(i) : "none", () -> member);
    }
    checks.due("public and final", true, () ->
        Modifier.isPublic(Gridmender.class.getModifiers()) && Modifier.isFinal(Gridmender.class.getModifiers()));
    checks.part("LANGUAGE.md");
    language(checks, Files.readString(Path.of(args[0], "src/main/java/Gridmender.java")));
    checks.end();
  }

  private static List<String> documented(String doc) {
    String face = doc.substring(doc.indexOf("```java"), doc.indexOf("## Description"));
    List<String> all = new ArrayList<>();
    for (String line : face.split("\n")) {
      if (line.startsWith("    public ")) {
        all.add(line.trim().replace("public ", "").replace(";", ""));
      }
    }
    Collections.sort(all);
    return all;
  }

  private static List<String> declared() {
    List<String> all = new ArrayList<>();
    for (Constructor<?> c : Gridmender.class.getDeclaredConstructors()) {
      all.add("Gridmender(" + types(c.getParameters()) + ")");
    }
    for (Method m : Gridmender.class.getDeclaredMethods()) {
      if (!Modifier.isPrivate(m.getModifiers())) {
        all.add(m.getReturnType().getSimpleName() + " " + m.getName() + "(" + types(m.getParameters()) + ")"
            + thrown(m.getExceptionTypes()));
      }
    }
    for (Field f : Gridmender.class.getDeclaredFields()) {
      if (!Modifier.isPrivate(f.getModifiers())) {
        all.add("field " + f.getName());
      }
    }
    Collections.sort(all);
    return all;
  }

  private static String types(Parameter[] parameters) {
    List<String> all = new ArrayList<>();
    for (Parameter p : parameters) {
      all.add(p.getType().getSimpleName() + " " + p.getName());
    }
    return String.join(", ", all);
  }

  private static String thrown(Class<?>[] exceptions) {
    List<String> all = new ArrayList<>();
    for (Class<?> e : exceptions) {
      all.add(e.getSimpleName());
    }
    return all.isEmpty() ? "" : " throws " + String.join(", ", all);
  }

  private static void language(Checks checks, String source) {
    String code = source.replaceAll("(?s)/\\*.*?\\*/", " ").replaceAll("//[^\n]*", " ").replaceAll("\"[^\"\n]*\"", "\"\"");
    for (String banned : BANNED) {
      checks.due("uses " + banned, false, () -> Pattern.compile(banned).matcher(code).find());
    }
    checks.due("signs outside 1 to 127", false, () -> Pattern.compile("[^\\x01-\\x7f]").matcher(source).find());
    checks.due("rows in a method, at most 60", true, () -> longestMethod(code) <= 60);
    checks.due("private methods with public names", "[]", FaceTest::shared);
  }

  private static int longestMethod(String code) {
    int most = 0;
    int start = 0;
    String[] rows = code.split("\n");
    for (int i = 0; i < rows.length; i++) {
      if (rows[i].matches("^(  |    )\\S.*\\{$") && !rows[i].contains(" class ")) {
        start = i;
      }
      if (rows[i].matches("^(  |    )\\}$")) {
        most = Math.max(most, i - start + 1);
      }
    }
    return most;
  }

  private static List<String> shared() {
    List<String> names = new ArrayList<>();
    List<String> hidden = new ArrayList<>();
    for (Method m : Gridmender.class.getDeclaredMethods()) {
      (Modifier.isPublic(m.getModifiers()) ? names : hidden).add(m.getName());
    }
    for (Class<?> inside : Gridmender.class.getDeclaredClasses()) {
      for (Method m : inside.getDeclaredMethods()) {
        hidden.add(m.getName());
      }
    }
    hidden.retainAll(names);
    return hidden;
  }
}
