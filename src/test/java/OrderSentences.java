/** Which exception goes ahead of which, that exceptions go ahead of REFUSED, and that what throws changes nothing. */
final class OrderSentences extends Sentences {
  private static final String FIRST = "If several exceptions apply, the one that is named first is thrown";
  private static final String AHEAD = "exceptions go ahead of REFUSED";
  private static final String NOTHING = "A method that throws an exception changes nothing.";

  // ---- the first one that is named

  @Says(at = "Description", words = FIRST)
  void makeUnitPutSow() {
    isThrown("make(4, 0, 5): no TABLE", INDEX, () -> x.make(4, 0, 5));
    isThrown("unit(-1, 0): no TABLE", INDEX, () -> x.unit(-1, 0));
    isThrown("put(4, 0, 0, 21): no TABLE", INDEX, () -> x.put(4, 0, 0, 21));
    isThrown("put(0, 1, 0, 21): no ROW", INDEX, () -> x.put(0, 1, 0, 21));
    isThrown("put(0, 0, 1, -21): no COLUMN", INDEX, () -> x.put(0, 0, 1, -21));
    isThrown("put(0, 0, 0, -21)", ARGUMENT, () -> x.put(0, 0, 0, -21));
    isThrown("sow(4, -1, 21): no TABLE", INDEX, () -> x.sow(4, -1, 21));
  }

  @Says(at = "Description", words = FIRST)
  void addOfBothWrong() {
    x.make(0, 2, 2);
    isThrown("add(4, false, 0, 0, 21): no TABLE", INDEX, () -> x.add(4, false, 0, 0, 21));
    isThrown("add(0, false, 2, 2, 0): no ROW", INDEX, () -> x.add(0, false, 2, 2, 0));
    isThrown("add(0, true, -1, -1, 0): no COLUMN", INDEX, () -> x.add(0, true, -1, -1, 0));
    isThrown("add(0, false, 2, 0, 21): no ROW", INDEX, () -> x.add(0, false, 2, 0, 21));
    isThrown("add(0, false, 0, 2, -21): no ROW", INDEX, () -> x.add(0, false, 0, 2, -21));
    isThrown("add(0, false, 1, 1, 21)", ARGUMENT, () -> x.add(0, false, 1, 1, 21));
  }

  @Says(at = "Description", words = FIRST)
  void takeOfBothWrong() {
    isThrown("take(4, 5, 0): no TABLE", INDEX, () -> x.take(4, 5, 0));
    isThrown("take(0, -1, 4): no TABLE", INDEX, () -> x.take(0, -1, 4));
    isThrown("take(0, 5, 0)", ARGUMENT, () -> x.take(0, 5, 0));
  }

  @Says(at = "Description", words = FIRST)
  void determinantOfSeveralWrong() {
    x.make(0, 2, 3);
    isThrown("determinant(4, 3): no TABLE", INDEX, () -> x.determinant(4, 3));
    isThrown("determinant(0, 3): how, though not square", ARGUMENT, () -> x.determinant(0, 3));
    isThrown("determinant(0, -1): how, though not square", ARGUMENT, () -> x.determinant(0, -1));
    isThrown("determinant(0, 2)", STATE, () -> x.determinant(0, 2));
  }

  @Says(at = "Description", words = FIRST)
  void minorDivisorRank() {
    isThrown("minor(4, 0, 0): no TABLE", INDEX, () -> x.minor(4, 0, 0));
    isThrown("divisor(-1, 9): no TABLE", INDEX, () -> x.divisor(-1, 9));
    isThrown("rank(4, 2): no TABLE", INDEX, () -> x.rank(4, 2));
    set(0, Tables.ROW_STEPS_W_1000000001);
    isThrown("rank(0, 2): how, though GREAT", ARGUMENT, () -> x.rank(0, 2));
    isThrown("rank(0, 1)", STATE, () -> x.rank(0, 1));
    isThrown("determinant(0, 3): how, though GREAT", ARGUMENT, () -> x.determinant(0, 3));
  }

  @Says(at = "Description", words = FIRST)
  void toldOfSeveralWrong() {
    isThrown("told(4, 5, 9, 9): no TABLE", INDEX, () -> x.told(4, 5, 9, 9));
    set(0, Tables.STEPS_L_1000000001);
    isThrown("told(0, 5, 0, 0): what, though GREAT", ARGUMENT, () -> x.told(0, 5, 0, 0));
    isThrown("told(0, 2, 4, 0): no ROW, though GREAT", ARGUMENT, () -> x.told(0, 2, 4, 0));
    isThrown("told(0, 3, 0, 4): no COLUMN, though GREAT", ARGUMENT, () -> x.told(0, 3, 0, 4));
    isThrown("told(0, 4, -1, 0): no ROW, though GREAT", ARGUMENT, () -> x.told(0, 4, -1, 0));
    isThrown("told(0, 2, 0, 0)", STATE, () -> x.told(0, 2, 0, 0));
    set(0, Tables.ROW_STEPS_W_1000000001);
    isThrown("told(0, 0, 4, 0): no ROW, though GREAT", ARGUMENT, () -> x.told(0, 0, 4, 0));
    isThrown("told(0, 1, 0, -1): no COLUMN, though GREAT", ARGUMENT, () -> x.told(0, 1, 0, -1));
    isThrown("told(0, 1, 0, 0)", STATE, () -> x.told(0, 1, 0, 0));
  }

  @Says(at = "Description", words = FIRST)
  void changeOfSeveralWrong() {
    isThrown("change(4, 5): no TABLE", INDEX, () -> x.change(4, 5));
    set(0, Tables.STEPS_L_1000000001);
    isThrown("change(0, 5): what, though GREAT", ARGUMENT, () -> x.change(0, 5));
    isThrown("change(0, 3)", STATE, () -> x.change(0, 3));
  }

  @Says(at = "Description", words = FIRST)
  void isSolvableOfSeveralWrong() {
    set(0, Tables.STEPS_L_1000000001);
    x.make(1, 3, 1);
    x.make(2, 4, 1);
    isThrown("isSolvable(4, 1, 0, 2): no TABLE", INDEX, () -> x.isSolvable(4, 1, 0, 2));
    isThrown("isSolvable(0, 4, 0, 2): no TABLE", INDEX, () -> x.isSolvable(0, 4, 0, 2));
    isThrown("isSolvable(0, 1, 1, 0): no COLUMN, though of unlike ROWS", INDEX, () -> x.isSolvable(0, 1, 1, 0));
    isThrown("isSolvable(0, 2, 1, 2): no COLUMN, though how is wrong", INDEX, () -> x.isSolvable(0, 2, 1, 2));
    isThrown("isSolvable(0, 2, -1, 0): no COLUMN, though GREAT", INDEX, () -> x.isSolvable(0, 2, -1, 0));
    isThrown("isSolvable(0, 1, 0, 0): unlike ROWS, though GREAT", ARGUMENT, () -> x.isSolvable(0, 1, 0, 0));
    isThrown("isSolvable(0, 2, 0, 2): how, though GREAT", ARGUMENT, () -> x.isSolvable(0, 2, 0, 2));
    isThrown("isSolvable(0, 2, 0, 0)", STATE, () -> x.isSolvable(0, 2, 0, 0));
  }

  @Says(at = "Description", words = FIRST)
  void restColumnOfSeveralWrong() {
    isThrown("restColumn(4, 9, 9): no TABLE", INDEX, () -> x.restColumn(4, 9, 9));
    set(0, Tables.STEPS_L_1000000001);
    isThrown("restColumn(0, -1, 0): GREAT goes ahead", STATE, () -> x.restColumn(0, -1, 0));
    isThrown("restColumn(0, 0, 4): GREAT goes ahead", STATE, () -> x.restColumn(0, 0, 4));
    set(0, Tables.STEPS_L_1000000000);
    isThrown("restColumn(0, -1, 0)", ARGUMENT, () -> x.restColumn(0, -1, 0));
  }

  @Says(at = "Description", words = FIRST)
  void restOfSeveralWrong() {
    isThrown("rest(4, -1): no TABLE", INDEX, () -> x.rest(4, -1));
    isThrown("rest(0, -1): none is left", STATE, () -> x.rest(0, -1));
    isThrown("rest(0, 1): none is left", STATE, () -> x.rest(0, 1));
    set(0, Tables.ROW_STEPS_W_1000000001);
    isThrown("rest(0, -1): GREAT goes ahead", STATE, () -> x.rest(0, -1));
    isThrown("rest(0, HIGH): GREAT goes ahead", STATE, () -> x.rest(0, HIGH));
    x.unit(0, 2);
    isThrown("rest(0, 1)", ARGUMENT, () -> x.rest(0, 1));
  }

  @Says(at = "Description", words = FIRST)
  void restOfRowOfSeveralWrong() {
    x.make(1, 1, 3);
    isThrown("restOf(4, 1, 9): no TABLE", INDEX, () -> x.restOf(4, 1, 9));
    isThrown("restOf(0, 4, 0): no TABLE, though none is left", INDEX, () -> x.restOf(0, 4, 0));
    isThrown("restOf(0, 1, 1): no ROW, though none is left", INDEX, () -> x.restOf(0, 1, 1));
    isThrown("restOf(0, 1, 0): none is left, though of unlike COLUMNS", STATE, () -> x.restOf(0, 1, 0));
    x.unit(0, 2);
    isThrown("restOf(0, 1, -1): no ROW, though of unlike COLUMNS", INDEX, () -> x.restOf(0, 1, -1));
    isThrown("restOf(0, 1, 0)", ARGUMENT, () -> x.restOf(0, 1, 0));
  }

  // ---- exceptions go ahead of REFUSED

  @Says(at = "Description", words = AHEAD)
  void addThrowsAheadOfRefused() {
    set(0, "20 20/20 20");
    isThrown("add(0, false, 0, 2, 1)", INDEX, () -> x.add(0, false, 0, 2, 1));
    isThrown("add(0, false, 0, 0, 1)", ARGUMENT, () -> x.add(0, false, 0, 0, 1));
    isThrown("add(0, false, 0, 1, 21)", ARGUMENT, () -> x.add(0, false, 0, 1, 21));
    isRefused("add(0, false, 0, 1, 1)", () -> x.add(0, false, 0, 1, 1));
  }

  @Says(at = "Description", words = AHEAD)
  void dropThrowsAheadOfRefused() {
    isThrown("drop(0, false, 1) of the only ROW", INDEX, () -> x.drop(0, false, 1));
    isThrown("drop(0, true, -1) of the only COLUMN", INDEX, () -> x.drop(0, true, -1));
    isThrown("drop(4, true, 0)", INDEX, () -> x.drop(4, true, 0));
    isRefused("drop(0, false, 0)", () -> x.drop(0, false, 0));
    isRefused("drop(0, true, 0)", () -> x.drop(0, true, 0));
  }

  @Says(at = "Description", words = AHEAD)
  void sumAndMultiplyThrowAheadOfRefused() {
    x.make(0, 2, 3);
    isThrown("sum(0, 1, false, 4) of unlike ones", INDEX, () -> x.sum(0, 1, false, 4));
    isRefused("sum(0, 1, false, 2)", () -> x.sum(0, 1, false, 2));
    isThrown("multiply(0, 1, -1) of unlike ones", INDEX, () -> x.multiply(0, 1, -1));
    isRefused("multiply(0, 1, 2)", () -> x.multiply(0, 1, 2));
    x.put(0, 0, 0, 20);
    isThrown("sum(0, 0, false, 4) of what is not LET", INDEX, () -> x.sum(0, 0, false, 4));
    isRefused("sum(0, 0, false, 3)", () -> x.sum(0, 0, false, 3));
  }

  @Says(at = "Description", words = AHEAD)
  void takeThrowsAheadOfRefused() {
    set(0, Tables.STEPS_L_1000000001);
    isThrown("take(0, 2, 4) of GREAT STEPS", INDEX, () -> x.take(0, 2, 4));
    isThrown("take(0, 5, 1) of GREAT STEPS", ARGUMENT, () -> x.take(0, 5, 1));
    isThrown("take(0, -1, 1) of GREAT STEPS", ARGUMENT, () -> x.take(0, -1, 1));
    isRefused("take(0, 2, 1)", () -> x.take(0, 2, 1));
  }

  @Says(at = "Description", words = AHEAD)
  void solveThrowsAheadOfRefused() {
    x.make(0, 2, 2);
    isThrown("solve(0, 1, 1, 2): no COLUMN, though of unlike ROWS", INDEX, () -> x.solve(0, 1, 1, 2));
    isThrown("solve(0, 1, -1, 2): no COLUMN, though of unlike ROWS", INDEX, () -> x.solve(0, 1, -1, 2));
    isThrown("solve(0, 1, 0, 4): no TABLE, though of unlike ROWS", INDEX, () -> x.solve(0, 1, 0, 4));
    isRefused("solve(0, 1, 0, 2)", () -> x.solve(0, 1, 0, 2));
    set(0, Tables.STEPS_L_1000000001);
    x.make(1, 4, 1);
    isThrown("solve(0, 1, 1, 2): no COLUMN, though GREAT", INDEX, () -> x.solve(0, 1, 1, 2));
    isRefused("solve(0, 1, 0, 2) of GREAT STEPS", () -> x.solve(0, 1, 0, 2));
  }

  @Says(at = "Description", words = AHEAD)
  void widenThrowsAheadOfRefused() {
    for (int i = 0; i < 4; i++) {
      x.make(i, 4, 4);
    }
    isThrown("widen(4, false)", INDEX, () -> x.widen(4, false));
    isThrown("widen(-1, true)", INDEX, () -> x.widen(-1, true));
    isRefused("widen(3, false)", () -> x.widen(3, false));
    isRefused("widen(3, true)", () -> x.widen(3, true));
  }

  // ---- what throws changes nothing

  @Says(at = "Description", words = NOTHING)
  void actsThatThrowChangeNothing() {
    set(0, "1 2/3 4");
    set(1, "5 6 7");
    set(2, "8/9");
    x.knock();
    x.drop(1, false, 0);
    isThrown("make", ARGUMENT, () -> x.make(0, 5, 4));
    isThrown("make", ARGUMENT, () -> x.make(0, 4, 5));
    isThrown("unit", ARGUMENT, () -> x.unit(0, 5));
    isThrown("put", ARGUMENT, () -> x.put(0, 0, 0, 21));
    isThrown("put", INDEX, () -> x.put(1, 1, 0, 7));
    isThrown("sow", ARGUMENT, () -> x.sow(0, 65536, 3));
    isThrown("sow", ARGUMENT, () -> x.sow(0, 3, 21));
    isThrown("copy", INDEX, () -> x.copy(4, 0));
    isThrown("copy", INDEX, () -> x.copy(0, 4));
    isThrown("swap", INDEX, () -> x.swap(4, 0));
    isThrown("swap", INDEX, () -> x.swap(0, 4));
    isThrown("flip", INDEX, () -> x.flip(4));
    isThrown("exchange", INDEX, () -> x.exchange(0, false, 0, 2));
    isThrown("turn", INDEX, () -> x.turn(0, true, 2));
    isThrown("add", INDEX, () -> x.add(0, true, 0, 2, 1));
    isThrown("add", ARGUMENT, () -> x.add(0, true, 0, 0, 1));
    isThrown("add", ARGUMENT, () -> x.add(0, true, 0, 1, 21));
    isThrown("widen", INDEX, () -> x.widen(4, true));
    isThrown("drop", INDEX, () -> x.drop(0, true, 2));
    isThrown("sum", INDEX, () -> x.sum(0, 0, true, 4));
    isThrown("multiply", INDEX, () -> x.multiply(0, 0, 4));
    isThrown("take", INDEX, () -> x.take(0, 0, 4));
    isThrown("take", ARGUMENT, () -> x.take(0, 5, 1));
    isThrown("solve", INDEX, () -> x.solve(0, 2, 0, 4));
    isThrown("solve", INDEX, () -> x.solve(0, 2, 1, 3));
    is(0, "1 2/3 4");
    is(1, "5 6 7");
    is(2, "8/9");
    is(3, "0");
  }

  @Says(at = "Description", words = NOTHING)
  void asksThatThrowChangeNothing() {
    set(0, "1 2/3 6");
    set(1, "5 6 7");
    x.knock();
    x.drop(1, false, 0);
    isThrown("shape", INDEX, () -> x.shape(4, true));
    isThrown("at", INDEX, () -> x.at(0, 2, 0));
    isThrown("text", INDEX, () -> x.text(4));
    isThrown("isSame", INDEX, () -> x.isSame(0, 4));
    isThrown("determinant", ARGUMENT, () -> x.determinant(0, 3));
    isThrown("determinant", STATE, () -> x.determinant(1, 0));
    isThrown("minor", ARGUMENT, () -> x.minor(0, 4, 1));
    isThrown("divisor", ARGUMENT, () -> x.divisor(0, 3));
    isThrown("rank", ARGUMENT, () -> x.rank(0, 2));
    isThrown("told", ARGUMENT, () -> x.told(0, 0, 2, 0));
    isThrown("change", ARGUMENT, () -> x.change(0, 5));
    isThrown("isSolvable", ARGUMENT, () -> x.isSolvable(0, 1, 0, 0));
    isThrown("restColumn", ARGUMENT, () -> x.restColumn(0, 1, 0));
    isThrown("rest", STATE, () -> x.rest(0, 0));
    isThrown("restOf", STATE, () -> x.restOf(0, 0, 0));
    isThrown("house", ARGUMENT, () -> x.house(4));
    set(0, "1 2/3 5");
    isThrown("rest", ARGUMENT, () -> x.rest(0, 1));
    isThrown("restOf", ARGUMENT, () -> x.restOf(0, 1, 0));
  }
}
