/** Sentences of the promises 18 to 27: what is asked of one TABLE. */
final class AsksSentences extends Sentences {
  // ---- 18: shape

  @Says(at = "Promise 18: shape", words = "Returns how many ROWS (COLUMNS) it has.")
  void shapeOfTheLeastAndTheGreatest() {
    due("shape(0, false) of 1 x 1", 1, () -> x.shape(0, false));
    due("shape(0, true) of 1 x 1", 1, () -> x.shape(0, true));
    x.make(0, 1, 4);
    due("shape(0, false) of 1 x 4", 1, () -> x.shape(0, false));
    due("shape(0, true) of 1 x 4", 4, () -> x.shape(0, true));
    x.make(0, 4, 1);
    due("shape(0, false) of 4 x 1", 4, () -> x.shape(0, false));
    due("shape(0, true) of 4 x 1", 1, () -> x.shape(0, true));
  }

  @Says(at = "Promise 18: shape", words = "Throws `IndexOutOfBoundsException` if there is no such TABLE")
  void shapeNeedsTable() {
    needsTable("shape(?, false)", t -> x.shape(t, false));
    needsTable("shape(?, true)", t -> x.shape(t, true));
  }

  // ---- 19: at

  @Says(at = "Promise 19: at", words = "Returns the NUMBER there.")
  void atTheCorners() {
    set(0, "20 2 3 -20/5 6 7 8/9 10 11 12/-1 14 15 0");
    due("at(0, 0, 0)", 20, () -> x.at(0, 0, 0));
    due("at(0, 0, 3)", -20, () -> x.at(0, 0, 3));
    due("at(0, 3, 0)", -1, () -> x.at(0, 3, 0));
    due("at(0, 3, 3)", 0, () -> x.at(0, 3, 3));
    due("at(0, 1, 2)", 7, () -> x.at(0, 1, 2));
  }

  @Says(at = "Promise 19: at", words = "Throws `IndexOutOfBoundsException` if there is no such TABLE, or no such ROW or COLUMN of it")
  void atNeedsPlace() {
    needsTable("at(?, 0, 0)", t -> x.at(t, 0, 0));
    set(0, "1 2 3/4 5 6");
    needsFromTo("at(0, ?, 2)", INDEX, 0, 1, n -> x.at(0, n, 2));
    needsFromTo("at(0, 1, ?)", INDEX, 0, 2, n -> x.at(0, 1, n));
    set(0, "1 2/3 4/5 6");
    needsFromTo("at(0, ?, 1)", INDEX, 0, 2, n -> x.at(0, n, 1));
    needsFromTo("at(0, 2, ?)", INDEX, 0, 1, n -> x.at(0, 2, n));
  }

  // ---- 20: text

  @Says(at = "Promise 20: text", words = "Returns its ROWS with \"/\" between, in each the NUMBERS with \" \" between.")
  void textOfTheLeastAndTheGreatest() {
    is(0, "0");
    x.put(0, 0, 0, -20);
    is(0, "-20");
    x.make(0, 1, 2);
    is(0, "0 0");
    x.make(0, 2, 1);
    is(0, "0/0");
    x.make(0, 4, 4);
    x.put(0, 3, 3, 20);
    is(0, "0 0 0 0/0 0 0 0/0 0 0 0/0 0 0 20");
  }

  @Says(at = "Promise 20: text", words = "Throws `IndexOutOfBoundsException` if there is no such TABLE")
  void textNeedsTable() {
    needsTable("text(?)", t -> x.text(t));
  }

  // ---- 21: isSame

  @Says(at = "Promise 21: isSame", words = "a TABLE, or the same")
  void isSameOfTheSame() {
    set(2, "1 2/3 4");
    due("isSame(2, 2)", true, () -> x.isSame(2, 2));
  }

  @Says(at = "Promise 21: isSame", words = "Returns whether both have as many ROWS, as many COLUMNS, and the same NUMBER at each place.")
  void isSameByEach() {
    due("isSame(0, 3) of new ones", true, () -> x.isSame(0, 3));
    x.make(0, 2, 2);
    x.make(3, 1, 2);
    due("isSame(0, 3) by ROWS", false, () -> x.isSame(0, 3));
    due("isSame(3, 0) by ROWS", false, () -> x.isSame(3, 0));
    x.make(3, 2, 1);
    due("isSame(0, 3) by COLUMNS", false, () -> x.isSame(0, 3));
    due("isSame(3, 0) by COLUMNS", false, () -> x.isSame(3, 0));
    x.make(3, 2, 2);
    due("isSame(0, 3) of 0s", true, () -> x.isSame(0, 3));
    for (int i = 0; i < 4; i++) {
      int place = i;
      x.put(0, i / 2, i % 2, 1);
      due("isSame(0, 3) by the NUMBER " + i, false, () -> x.isSame(0, 3));
      x.put(3, place / 2, place % 2, -1);
      due("isSame(0, 3) by the sign " + i, false, () -> x.isSame(0, 3));
      x.put(3, place / 2, place % 2, 1);
      due("isSame(0, 3) again", true, () -> x.isSame(0, 3));
    }
    x.make(0, 1, 4);
    x.make(3, 4, 1);
    due("isSame(0, 3) of as many 0s", false, () -> x.isSame(0, 3));
  }

  @Says(at = "Promise 21: isSame", words = "Throws `IndexOutOfBoundsException` if there is no such TABLE (both)")
  void isSameNeedsTables() {
    needsTable("isSame(?, 1)", t -> x.isSame(t, 1));
    needsTable("isSame(1, ?)", t -> x.isSame(1, t));
  }

  // ---- 22: determinant

  @Says(at = "Promise 22: determinant", words = "(all are the same)")
  void determinantIsTheSameByEach() {
    String[] texts = {"-20", "1 2/3 4", "0 1/1 0", "2 0 1/1 3 2/1 1 4", "1 2 3/4 5 6/7 8 9",
        "3 -7 20 1/0 5 5 -2/11 -20 4 4/-1 6 0 13", "0 0 0 2/0 0 3 0/0 5 0 0/7 0 0 0"};
    int[] wants = {-20, -2, -1, 18, 0, -16767, 210};
    for (int i = 0; i < texts.length; i++) {
      set(0, texts[i]);
      for (int how = 0; how <= 2; how++) {
        int by = how;
        due("determinant(0, " + how + ") of " + texts[i], wants[i], () -> x.determinant(0, by));
      }
    }
  }

  @Says(at = "Promise 22: determinant", words = "Throws `IndexOutOfBoundsException` if there is no such TABLE")
  void determinantNeedsTable() {
    needsTable("determinant(?, 0)", t -> x.determinant(t, 0));
    needsTable("determinant(?, 2)", t -> x.determinant(t, 2));
  }

  @Says(at = "Promise 22: determinant", words = "Throws `IllegalArgumentException` if how is not 0 to 2")
  void determinantNeedsHow() {
    set(0, "1 2/3 4");
    needsFromTo("determinant(0, ?)", ARGUMENT, 0, 2, n -> x.determinant(0, n));
  }

  @Says(at = "Promise 22: determinant", words = "Throws `IllegalStateException` if it is not square (by each how), or if how is 2 and its ROW STEPS are GREAT")
  void determinantNeedsSquare() {
    for (int rows = 1; rows <= 4; rows++) {
      for (int columns = 1; columns <= 4; columns++) {
        x.make(0, rows, columns);
        for (int how = 0; how <= 2; how++) {
          int by = how;
          due("determinant(0, " + how + ") of " + rows + " x " + columns, rows == columns ? 0 : STATE,
              () -> x.determinant(0, by));
        }
      }
    }
    x.make(0, 2, 3);
    isThrown("determinant(0, 0)", STATE, () -> x.determinant(0, 0));
  }

  @Says(at = "Promise 22: determinant", words = "or if how is 2 and its ROW STEPS are GREAT")
  void determinantNeedsRowStepsByHow2() {
    set(0, Tables.ROW_STEPS_W_1000000000);
    due("determinant(0, 2) less determinant(0, 0)", 0, () -> x.determinant(0, 2) - x.determinant(0, 0));
    set(0, Tables.ROW_STEPS_W_1000000001);
    isThrown("determinant(0, 2)", STATE, () -> x.determinant(0, 2));
    due("determinant(0, 0)", Tables.DIVISOR_OF_W_1000000001, () -> Math.abs(x.determinant(0, 0)));
    due("determinant(0, 1)", Tables.DIVISOR_OF_W_1000000001, () -> Math.abs(x.determinant(0, 1)));
    set(0, Tables.STEPS_GREAT_BUT_NOT_ROW_STEPS);
    due("determinant(0, 2) less determinant(0, 1)", 0, () -> x.determinant(0, 2) - x.determinant(0, 1));
  }

  // ---- 23: minor

  @Says(at = "Promise 23: minor", words = "the sum of 2^k over the ROWS k that stay")
  void minorOfTheFirstAndTheLast() {
    set(0, "1 2 3 4/5 6 7 8/9 10 11 12/13 14 15 17");
    for (int i = 0; i < 4; i++) {
      for (int j = 0; j < 4; j++) {
        int row = i;
        int column = j;
        due("minor(0, " + (1 << i) + ", " + (1 << j) + ")", x.at(0, i, j), () -> x.minor(0, 1 << row, 1 << column));
      }
    }
    due("minor(0, 9, 9)", 1 * 17 - 4 * 13, () -> x.minor(0, 9, 9));
    due("minor(0, 6, 3)", 5 * 10 - 6 * 9, () -> x.minor(0, 6, 3));
    due("minor(0, 15, 15) less determinant(0, 0)", 0, () -> x.minor(0, 15, 15) - x.determinant(0, 0));
    set(0, "1 0 0 0/0 0 2 0/0 3 0 0/0 0 0 5");
    due("minor(0, 15, 15)", -30, () -> x.minor(0, 15, 15));
    due("minor(0, 14, 14)", -30, () -> x.minor(0, 14, 14));
    due("minor(0, 7, 7)", -6, () -> x.minor(0, 7, 7));
  }

  @Says(at = "Promise 23: minor", words = "Throws `IndexOutOfBoundsException` if there is no such TABLE")
  void minorNeedsTable() {
    needsTable("minor(?, 1, 1)", t -> x.minor(t, 1, 1));
  }

  @Says(at = "Promise 23: minor", words = "Throws `IllegalArgumentException` if rows or columns is below 1, or has a k that is no ROW (COLUMN) of it, or they are not as many")
  void minorNeedsRowsAndColumns() {
    set(0, "1 2 3/4 5 6");
    due("minor(0, 1, 1)", 1, () -> x.minor(0, 1, 1));
    due("minor(0, 2, 4)", 6, () -> x.minor(0, 2, 4));
    due("minor(0, 3, 6)", -3, () -> x.minor(0, 3, 6));
    for (int wrong : new int[] {0, -1, LOW, 4, 5, 8, 16, 1 << 30, HIGH}) {
      isThrown("minor(0, " + wrong + ", 1)", ARGUMENT, () -> x.minor(0, wrong, 1));
    }
    isThrown("minor(0, 0, 0)", ARGUMENT, () -> x.minor(0, 0, 0));
    isThrown("minor(0, -1, -1)", ARGUMENT, () -> x.minor(0, -1, -1));
    isThrown("minor(0, 6, 6)", ARGUMENT, () -> x.minor(0, 6, 6));
  }

  @Says(at = "Promise 23: minor", words = "Throws `IllegalArgumentException` if rows or columns is below 1, or has a k that is no ROW (COLUMN) of it, or they are not as many")
  void minorNeedsColumns() {
    set(0, "1 2 3/4 5 6");
    for (int wrong : new int[] {0, -1, LOW, 8, 9, 16, 1 << 30, HIGH}) {
      isThrown("minor(0, 1, " + wrong + ")", ARGUMENT, () -> x.minor(0, 1, wrong));
    }
    set(0, "1 2 3 4/5 6 7 8/9 10 11 12/13 14 15 17");
    due("minor(0, 8, 8)", 17, () -> x.minor(0, 8, 8));
    isThrown("minor(0, 8, 16)", ARGUMENT, () -> x.minor(0, 8, 16));
    isThrown("minor(0, 16, 8)", ARGUMENT, () -> x.minor(0, 16, 8));
  }

  @Says(at = "Promise 23: minor", words = "or they are not as many")
  void minorNeedsAsMany() {
    set(0, "1 2 3 4/5 6 7 8/9 10 11 12/13 14 15 17");
    isThrown("minor(0, 1, 3)", ARGUMENT, () -> x.minor(0, 1, 3));
    isThrown("minor(0, 3, 1)", ARGUMENT, () -> x.minor(0, 3, 1));
    isThrown("minor(0, 15, 7)", ARGUMENT, () -> x.minor(0, 15, 7));
    isThrown("minor(0, 7, 15)", ARGUMENT, () -> x.minor(0, 7, 15));
    due("minor(0, 3, 3)", -4, () -> x.minor(0, 3, 3));
    due("minor(0, 3, 5)", -8, () -> x.minor(0, 3, 5));
  }

  // ---- 24: divisor

  @Says(at = "Promise 24: divisor", words = "Returns its DIVISOR k.")
  void divisorFrom0On() {
    set(0, "4 0 0 0/0 6 0 0/0 0 10 0/0 0 0 15");
    int[] wants = {1, 1, 2, 60, 3600};
    for (int i = 0; i < wants.length; i++) {
      int k = i;
      due("divisor(0, " + k + ")", wants[i], () -> x.divisor(0, k));
    }
  }

  @Says(at = "Promise 24: divisor", words = "Throws `IndexOutOfBoundsException` if there is no such TABLE")
  void divisorNeedsTable() {
    needsTable("divisor(?, 0)", t -> x.divisor(t, 0));
  }

  @Says(at = "Promise 24: divisor", words = "Throws `IllegalArgumentException` if k is not 0 to the lesser one of its numbers of ROWS and COLUMNS")
  void divisorNeedsLesserOne() {
    x.make(0, 2, 3);
    needsFromTo("divisor(0, ?) of 2 x 3", ARGUMENT, 0, 2, n -> x.divisor(0, n));
    x.make(0, 3, 2);
    needsFromTo("divisor(0, ?) of 3 x 2", ARGUMENT, 0, 2, n -> x.divisor(0, n));
    x.make(0, 1, 4);
    needsFromTo("divisor(0, ?) of 1 x 4", ARGUMENT, 0, 1, n -> x.divisor(0, n));
    x.make(0, 4, 4);
    needsFromTo("divisor(0, ?) of 4 x 4", ARGUMENT, 0, 4, n -> x.divisor(0, n));
  }

  // ---- 25: rank

  @Says(at = "Promise 25: rank", words = "0 by DIVISORS, 1 how many ROWS of the STEPPED form are not 0 everywhere (both are the same)")
  void rankIsTheSameByBoth() {
    String[] texts = {"0", "0 0 0 1", "1/2/3/4", "0 1 0/0 0 1", "1 2 3/4 5 6/7 8 9", "0 0 0 0/0 0 0 0/0 0 0 0/0 0 0 9",
        "1 2 3 4/5 6 7 8/9 10 11 12/13 14 15 17"};
    int[] wants = {0, 1, 1, 2, 2, 1, 3};
    for (int i = 0; i < texts.length; i++) {
      set(0, texts[i]);
      due("rank(0, 0) of " + texts[i], wants[i], () -> x.rank(0, 0));
      due("rank(0, 1) of " + texts[i], wants[i], () -> x.rank(0, 1));
    }
  }

  @Says(at = "Promise 25: rank", words = "Throws `IndexOutOfBoundsException` if there is no such TABLE")
  void rankNeedsTable() {
    needsTable("rank(?, 0)", t -> x.rank(t, 0));
    needsTable("rank(?, 1)", t -> x.rank(t, 1));
  }

  @Says(at = "Promise 25: rank", words = "Throws `IllegalArgumentException` if how is not 0 or 1")
  void rankNeedsHow() {
    set(0, "1 2/3 4");
    needsFromTo("rank(0, ?)", ARGUMENT, 0, 1, n -> x.rank(0, n));
    isThrown("rank(0, 2)", ARGUMENT, () -> x.rank(0, 2));
  }

  @Says(at = "Promise 25: rank", words = "Throws `IllegalStateException` if how is 1, and its ROW STEPS are GREAT")
  void rankNeedsRowStepsByHow1() {
    set(0, Tables.ROW_STEPS_W_1000000000);
    due("rank(0, 1)", 4, () -> x.rank(0, 1));
    set(0, Tables.ROW_STEPS_W_1000000001);
    isThrown("rank(0, 1)", STATE, () -> x.rank(0, 1));
    due("rank(0, 0)", 4, () -> x.rank(0, 0));
    set(0, Tables.STEPS_GREAT_BUT_NOT_ROW_STEPS);
    due("rank(0, 1)", 4, () -> x.rank(0, 1));
  }

  // ---- 26: told

  @Says(at = "Promise 26: told", words = "Returns the number there.")
  void toldOfEach() {
    set(0, "0 -3 0/1 0 0");
    String[] wants = {"1 0 0/0 3 0", "0 1/-1 0", "1 0 0/0 3 0", "0 1/-1 0", "1 0 0/0 1 0/0 0 1"};
    for (int i = 0; i < wants.length; i++) {
      int what = i;
      due("told(0, " + what + ", ..)", wants[i], () -> form(0, what));
    }
    // What is told need not be LET.
    set(0, "5 3/2 9");
    due("told(0, 0, 1, 1)", 39, () -> x.told(0, 0, 1, 1));
  }

  @Says(at = "Promise 26: told", words = "Throws `IndexOutOfBoundsException` if there is no such TABLE")
  void toldNeedsTable() {
    needsTable("told(?, 0, 0, 0)", t -> x.told(t, 0, 0, 0));
    needsTable("told(?, 4, 0, 0)", t -> x.told(t, 4, 0, 0));
  }

  @Says(at = "Promise 26: told", words = "Throws `IllegalArgumentException` if what is not 0 to 4, or there is no such ROW or COLUMN")
  void toldNeedsWhat() {
    set(0, "1 2/3 4");
    needsFromTo("told(0, ?, 0, 0)", ARGUMENT, 0, 4, n -> x.told(0, n, 0, 0));
  }

  @Says(at = "Promise 26: told", words = "Throws `IllegalArgumentException` if what is not 0 to 4, or there is no such ROW or COLUMN")
  void toldNeedsPlace() {
    // The forms are 2 x 3, the changes of ROWS 2 x 2, that of COLUMNS 3 x 3.
    int[][] shapes = {{2, 3}, {2, 2}, {2, 3}, {2, 2}, {3, 3}};
    for (int i = 0; i < shapes.length; i++) {
      x = new Gridmender();
      set(0, "1 2 3/4 5 6");
      int what = i;
      int lastRow = shapes[i][0] - 1;
      int lastColumn = shapes[i][1] - 1;
      needsFromTo("told(0, " + what + ", ?, 0)", ARGUMENT, 0, lastRow, n -> x.told(0, what, n, 0));
      needsFromTo("told(0, " + what + ", 0, ?)", ARGUMENT, 0, lastColumn, n -> x.told(0, what, 0, n));
      due("told(0, " + what + ") of the last throws", false,
          () -> Checks.tell(() -> x.told(0, what, lastRow, lastColumn)).equals(ARGUMENT));
    }
  }

  @Says(at = "Promise 26: told", words = "Throws `IllegalArgumentException` if what is not 0 to 4, or there is no such ROW or COLUMN")
  void toldNeedsPlaceOfMoreRows() {
    int[][] shapes = {{3, 1}, {3, 3}, {3, 1}, {3, 3}, {1, 1}};
    for (int i = 0; i < shapes.length; i++) {
      x = new Gridmender();
      set(0, "2/3/5");
      int what = i;
      needsFromTo("told(0, " + what + ", ?, 0)", ARGUMENT, 0, shapes[i][0] - 1, n -> x.told(0, what, n, 0));
      needsFromTo("told(0, " + what + ", 0, ?)", ARGUMENT, 0, shapes[i][1] - 1, n -> x.told(0, what, 0, n));
    }
  }

  @Says(at = "Promise 26: told", words = "Throws `IllegalStateException` if the STEPS (of 0 and 1 the ROW STEPS) are GREAT")
  void toldNeedsSteps() {
    set(0, Tables.ROW_STEPS_GREAT_BUT_NOT_STEPS);
    for (int i = 0; i <= 4; i++) {
      int what = i;
      due("told(0, " + what + ", 0, 0) throws by GREAT ROW STEPS", what <= 1,
          () -> Checks.tell(() -> x.told(0, what, 0, 0)).equals(STATE));
    }
    set(0, Tables.STEPS_GREAT_BUT_NOT_ROW_STEPS);
    for (int i = 0; i <= 4; i++) {
      int what = i;
      due("told(0, " + what + ", 3, 3) throws by GREAT STEPS", what >= 2,
          () -> Checks.tell(() -> x.told(0, what, 3, 3)).equals(STATE));
    }
    isThrown("told(0, 2, 0, 0)", STATE, () -> x.told(0, 2, 0, 0));
  }

  // ---- 27: change

  @Says(at = "Promise 27: change", words = "0 whether its ROW STEPS are GREAT (1 or 0), 1 whether its STEPS are")
  void changeTellsWhatIsGreat() {
    greats("1 2/3 4", 0, 0);
    greats(Tables.ROW_STEPS_GREAT_BUT_NOT_STEPS, 1, 0);
    greats(Tables.STEPS_GREAT_BUT_NOT_ROW_STEPS, 0, 1);
    greats(Tables.STEPS_L_1000000000, 0, 0);
    greats(Tables.STEPS_L_1000000001, 0, 1);
    greats(Tables.ROW_STEPS_C_1000000000, 0, 0);
    greats(Tables.ROW_STEPS_C_1000000001, 1, 0);
  }

  private void greats(String text, int rowSteps, int steps) {
    set(0, text);
    due("change(0, 0) of " + text, rowSteps, () -> x.change(0, 0));
    due("change(0, 1) of " + text, steps, () -> x.change(0, 1));
  }

  @Says(at = "Promise 27: change", words = "2 the DETERMINANT of its ROW CHANGE, 3 of its LEFT CHANGE, 4 of its RIGHT CHANGE")
  void changeTellsDeterminants() {
    changes("1 2/0 1", 1, 1, 1);
    changes("-5", -1, -1, 1);
    changes("0 5", 1, 1, -1);
    changes("0/5", -1, -1, 1);
    changes("0 2/2 0", -1, 1, -1);
    changes("0 -2/2 0", 1, -1, -1);
    changes("0 0/0 0", 1, 1, 1);
    changes("0 0 0 1/0 0 1 0/0 1 0 0/-1 0 0 0", -1, -1, 1);
  }

  private void changes(String text, int row, int left, int right) {
    set(0, text);
    due("change(0, 2) of " + text, row, () -> x.change(0, 2));
    due("change(0, 3) of " + text, left, () -> x.change(0, 3));
    due("change(0, 4) of " + text, right, () -> x.change(0, 4));
  }

  @Says(at = "Promise 27: change", words = "Throws `IndexOutOfBoundsException` if there is no such TABLE")
  void changeNeedsTable() {
    needsTable("change(?, 0)", t -> x.change(t, 0));
    needsTable("change(?, 4)", t -> x.change(t, 4));
  }

  @Says(at = "Promise 27: change", words = "Throws `IllegalArgumentException` if what is not 0 to 4")
  void changeNeedsWhat() {
    set(0, "1 2/3 4");
    needsFromTo("change(0, ?)", ARGUMENT, 0, 4, n -> x.change(0, n));
  }

  @Says(at = "Promise 27: change", words = "Throws `IllegalStateException` if what is 2 to 4, and these STEPS are GREAT")
  void changeNeedsSteps() {
    set(0, Tables.ROW_STEPS_GREAT_BUT_NOT_STEPS);
    isThrown("change(0, 2) of GREAT ROW STEPS", STATE, () -> x.change(0, 2));
    due("change(0, 3) of GREAT ROW STEPS", 1, () -> Math.abs(x.change(0, 3)));
    due("change(0, 4) of GREAT ROW STEPS", 1, () -> Math.abs(x.change(0, 4)));
    set(0, Tables.STEPS_GREAT_BUT_NOT_ROW_STEPS);
    due("change(0, 2) of GREAT STEPS", 1, () -> Math.abs(x.change(0, 2)));
    isThrown("change(0, 3) of GREAT STEPS", STATE, () -> x.change(0, 3));
    isThrown("change(0, 4) of GREAT STEPS", STATE, () -> x.change(0, 4));
    set(0, Tables.STEPS_L_1000000000);
    due("change(0, 3) by change(0, 3)", 1, () -> x.change(0, 3) * x.change(0, 3));
    set(0, Tables.ROW_STEPS_C_1000000000);
    due("change(0, 2) by change(0, 2)", 1, () -> x.change(0, 2) * x.change(0, 2));
  }
}
