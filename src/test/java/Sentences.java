import java.lang.reflect.InvocationTargetException;
import java.lang.reflect.Method;
import java.util.ArrayList;
import java.util.Comparator;
import java.util.List;

/** Tests of sentences: each method with Says is one, and has an object of its own. */
abstract class Sentences {
  static final String INDEX = "throws.IndexOutOfBoundsException";
  static final String ARGUMENT = "throws.IllegalArgumentException";
  static final String STATE = "throws.IllegalStateException";
  static final int REFUSED = -9;
  static final int LOW = Integer.MIN_VALUE;
  static final int HIGH = Integer.MAX_VALUE;

  interface OfNumber {
    Object answer(int number);
  }

  Gridmender x;
  private Checks checks;

  final void runAll(Checks all, List<Says> done) throws ReflectiveOperationException {
    checks = all;
    for (Method test : tests()) {
      Says says = test.getAnnotation(Says.class);
      done.add(says);
      checks.part(test.getName() + " [" + says.at() + ": \"" + says.words() + "\"]");
      x = new Gridmender();
      int before = checks.looked();
      try {
        test.invoke(this);
      } catch (InvocationTargetException e) {
        due("the test itself", "ends", () -> String.valueOf(e.getCause()));
      }
      due("the test looked at answers", true, () -> checks.looked() > before);
    }
  }

  private List<Method> tests() {
    List<Method> tests = new ArrayList<>();
    for (Method m : getClass().getDeclaredMethods()) {
      if (m.getAnnotation(Says.class) != null) {
        tests.add(m);
      }
    }
    tests.sort(Comparator.comparing(Method::getName));
    return tests;
  }

  final void due(String call, Object want, Checks.Call got) {
    checks.due(call, want, got);
  }

  final void is(int table, String want) {
    due("text(" + table + ")", want, () -> x.text(table));
  }

  /** Rows with "/" between, numbers with " " between. */
  final void set(int table, String text) {
    String[] rows = text.split("/");
    x.make(table, rows.length, rows[0].split(" ").length);
    for (int i = 0; i < rows.length; i++) {
      String[] numbers = rows[i].split(" ");
      for (int j = 0; j < numbers.length; j++) {
        if (!numbers[j].equals("0")) {
          x.put(table, i, j, Integer.parseInt(numbers[j]));
        }
      }
    }
  }

  /** All that an object shows of itself: if two of these are the same, nothing was changed. */
  final String state() {
    StringBuilder all = new StringBuilder();
    for (int i = 0; i < 4; i++) {
      all.append(x.text(i)).append(" | ");
    }
    for (int what = 0; what < 4; what++) {
      all.append(x.house(what)).append(' ');
    }
    return all.append(x.digest()).toString();
  }

  /** It throws so, and changes nothing. */
  final void isThrown(String call, String want, Checks.Call got) {
    String before = state();
    due(call, want, got);
    due("what stands behind " + call, before, this::state);
  }

  /** It is done: the answer is so, and it counts as an act. */
  final void isDone(String call, int want, Checks.Call got) {
    int acts = x.house(0);
    int refusals = x.house(1);
    due(call, want, got);
    due("house(0) behind " + call, acts + 1, () -> x.house(0));
    due("house(1) behind " + call, refusals, () -> x.house(1));
  }

  /** It is REFUSED: nothing is changed, but that house() of 1 counts it. */
  final void isRefused(String call, Checks.Call got) {
    String[] texts = {x.text(0), x.text(1), x.text(2), x.text(3)};
    int[] house = {x.house(0), x.house(1) + 1, x.house(2), x.house(3)};
    due(call, REFUSED, got);
    for (int i = 0; i < 4; i++) {
      is(i, texts[i]);
    }
    for (int i = 0; i < 4; i++) {
      int what = i;
      due("house(" + i + ") behind " + call, house[i], () -> x.house(what));
    }
  }

  /** With no such TABLE it throws, and changes nothing; with the TABLES 0 to 3 it does not throw so. */
  final void needsTable(String call, OfNumber got) {
    for (int table : new int[] {-1, 4, LOW, HIGH}) {
      isThrown(call.replace("?", "" + table), INDEX, () -> got.answer(table));
    }
    for (int t = 0; t < 4; t++) {
      int table = t;
      due(call.replace("?", "" + table) + " throws that", false, () -> Checks.tell(() -> got.answer(table)).equals(INDEX));
    }
  }

  /** Of the numbers from first to last none makes it throw so; one below and one above them does, and far ones do. */
  final void needsFromTo(String call, String want, int first, int last, OfNumber got) {
    for (int number : new int[] {LOW, first - 1, last + 1, HIGH}) {
      isThrown(call.replace("?", "" + number), want, () -> got.answer(number));
    }
    for (int n = first; n <= last; n++) {
      int number = n;
      due(call.replace("?", "" + number) + " throws that", false, () -> Checks.tell(() -> got.answer(number)).equals(want));
    }
  }

  /** What told() tells of a form or change, written as a text() is. */
  final String form(int table, int what) {
    int rows = x.shape(table, what == 4);
    int columns = x.shape(table, what != 1 && what != 3);
    StringBuilder all = new StringBuilder();
    for (int i = 0; i < rows; i++) {
      for (int j = 0; j < columns; j++) {
        all.append(j > 0 ? " " : i > 0 ? "/" : "").append(x.told(table, what, i, j));
      }
    }
    return all.toString();
  }

  /** The STEPPED form and the ROW CHANGE of the TABLE 0, once it has these NUMBERS. */
  final void stepsTo(String text, String stepped, String rowChange) {
    set(0, text);
    due("STEPPED form of " + text, stepped, () -> form(0, 0));
    due("ROW CHANGE of " + text, rowChange, () -> form(0, 1));
  }

  /** The DIAGONAL, the LEFT and the RIGHT CHANGE of the TABLE 0, once it has these NUMBERS. */
  final void goesTo(String text, String diagonal, String left, String right) {
    set(0, text);
    due("DIAGONAL of " + text, diagonal, () -> form(0, 2));
    due("LEFT CHANGE of " + text, left, () -> form(0, 3));
    due("RIGHT CHANGE of " + text, right, () -> form(0, 4));
  }
}
