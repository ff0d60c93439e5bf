/** Sentences of the promises 28 to 35: equations, rests, and the whole. */
final class WholeSentences extends Sentences {
  // ---- 28: isSolvable

  @Says(at = "Promise 28: isSolvable", words = "0 whether the told DIVISIONS go, 1 whether the TABLE with that COLUMN behind its own has the same RANK, and the same DIVISOR of that many (both are the same)")
  void isSolvableIsTheSameByBoth() {
    // The RANK is another one; it is the same, and the DIVISOR another one; both are the same.
    solvable("1 2/2 4", "1/3", false);
    solvable("2 0/0 2", "2/1", false);
    solvable("2 0/0 2", "2/4", true);
    solvable("0 0/0 0", "0/0", true);
    solvable("0 0/0 0", "0/1", false);
    solvable("6 10 15", "1", true);
    solvable("6 10 14", "1", false);
    solvable("6 10 14", "-2", true);
    // With four COLUMNS of its own it has five then.
    solvable("2 0 0 0/0 2 0 0/0 0 2 0/0 0 0 2", "2/4/6/8", true);
    solvable("2 0 0 0/0 2 0 0/0 0 2 0/0 0 0 2", "2/4/6/9", false);
    solvable("2 0 0 0/0 2 0 0/0 0 2 0/0 0 0 0", "2/4/6/0", true);
    solvable("2 0 0 0/0 2 0 0/0 0 2 0/0 0 0 0", "2/4/6/1", false);
    solvable("2 3 5 7/4 6 10 14", "1/2", true);
    solvable("2 3 5 7/4 6 10 14", "1/3", false);
  }

  private void solvable(String table, String column, boolean want) {
    set(0, table);
    set(1, column);
    due("isSolvable(0, 1, 0, 0) of " + table + " and " + column, want, () -> x.isSolvable(0, 1, 0, 0));
    due("isSolvable(0, 1, 0, 1) of " + table + " and " + column, want, () -> x.isSolvable(0, 1, 0, 1));
  }

  @Says(at = "Promise 28: isSolvable", words = "Returns whether there is a SOLUTION.")
  void isSolvableOfTheLastColumn() {
    set(0, "2 0/0 2");
    set(1, "1 2 1 4/1 4 2 2");
    for (int how = 0; how <= 1; how++) {
      int by = how;
      due("isSolvable(0, 1, 0, " + how + ")", false, () -> x.isSolvable(0, 1, 0, by));
      due("isSolvable(0, 1, 1, " + how + ")", true, () -> x.isSolvable(0, 1, 1, by));
      due("isSolvable(0, 1, 2, " + how + ")", false, () -> x.isSolvable(0, 1, 2, by));
      due("isSolvable(0, 1, 3, " + how + ")", true, () -> x.isSolvable(0, 1, 3, by));
      due("isSolvable(0, 0, 1, " + how + ") of its own", true, () -> x.isSolvable(0, 0, 1, by));
    }
  }

  @Says(at = "Promise 28: isSolvable", words = "Throws `IndexOutOfBoundsException` if there is no such TABLE (both), or no such COLUMN")
  void isSolvableNeedsTablesAndColumn() {
    needsTable("isSolvable(?, 1, 0, 0)", t -> x.isSolvable(t, 1, 0, 0));
    needsTable("isSolvable(1, ?, 0, 1)", t -> x.isSolvable(1, t, 0, 1));
    x.make(0, 2, 4);
    x.make(1, 2, 3);
    needsFromTo("isSolvable(0, 1, ?, 0)", INDEX, 0, 2, n -> x.isSolvable(0, 1, n, 0));
    needsFromTo("isSolvable(0, 1, ?, 1)", INDEX, 0, 2, n -> x.isSolvable(0, 1, n, 1));
  }

  @Says(at = "Promise 28: isSolvable", words = "Throws `IllegalArgumentException` if they have unlike numbers of ROWS, or how is not 0 or 1")
  void isSolvableNeedsRowsAndHow() {
    x.make(0, 2, 3);
    needsFromTo("isSolvable(0, 0, 0, ?)", ARGUMENT, 0, 1, n -> x.isSolvable(0, 0, 0, n));
    for (int how = 0; how <= 1; how++) {
      int by = how;
      x.make(1, 1, 3);
      isThrown("isSolvable(0, 1, 0, " + how + ") of 2 ROWS and 1", ARGUMENT, () -> x.isSolvable(0, 1, 0, by));
      x.make(1, 3, 3);
      isThrown("isSolvable(0, 1, 0, " + how + ") of 2 ROWS and 3", ARGUMENT, () -> x.isSolvable(0, 1, 0, by));
      x.make(1, 2, 1);
      due("isSolvable(0, 1, 0, " + how + ") of 2 ROWS and 2", true, () -> x.isSolvable(0, 1, 0, by));
    }
  }

  @Says(at = "Promise 28: isSolvable", words = "Throws `IllegalStateException` if how is 0, and the STEPS are GREAT")
  void isSolvableNeedsStepsByHow0() {
    x.make(1, 4, 1);
    set(0, Tables.STEPS_L_1000000000);
    due("isSolvable(0, 1, 0, 0)", true, () -> x.isSolvable(0, 1, 0, 0));
    set(0, Tables.STEPS_L_1000000001);
    isThrown("isSolvable(0, 1, 0, 0)", STATE, () -> x.isSolvable(0, 1, 0, 0));
    due("isSolvable(0, 1, 0, 1)", true, () -> x.isSolvable(0, 1, 0, 1));
    set(0, Tables.ROW_STEPS_GREAT_BUT_NOT_STEPS);
    due("isSolvable(0, 1, 0, 0) of GREAT ROW STEPS", true, () -> x.isSolvable(0, 1, 0, 0));
    set(0, Tables.STEPS_Y_1000000001);
    set(2, Tables.SOLUTION_OF_Y_1000000001);
    x.multiply(0, 2, 1);
    due("isSolvable(0, 1, 0, 0) of a GREAT number of Y", true, () -> x.isSolvable(0, 1, 0, 0));
  }

  // ---- 29: restColumn

  @Says(at = "Promise 29: restColumn", words = "Throws `IndexOutOfBoundsException` if there is no such TABLE")
  void restColumnNeedsTable() {
    needsTable("restColumn(?, 0, 0)", t -> x.restColumn(t, 0, 0));
  }

  @Says(at = "Promise 29: restColumn", words = "Throws `IllegalStateException` if its STEPS are GREAT")
  void restColumnNeedsSteps() {
    set(0, Tables.STEPS_L_1000000000);
    isThrown("restColumn(0, 0, 0) of RANK 4", ARGUMENT, () -> x.restColumn(0, 0, 0));
    set(0, Tables.STEPS_L_1000000001);
    isThrown("restColumn(0, 0, 0)", STATE, () -> x.restColumn(0, 0, 0));
    set(0, Tables.ROW_STEPS_GREAT_BUT_NOT_STEPS);
    isThrown("restColumn(0, 0, 0) of GREAT ROW STEPS", ARGUMENT, () -> x.restColumn(0, 0, 0));
  }

  @Says(at = "Promise 29: restColumn", words = "Throws `IllegalArgumentException` if there is no such REST COLUMN or number")
  void restColumnNeedsColumnAndNumber() {
    set(0, "1 0 0 0/0 1 0 0");
    needsFromTo("restColumn(0, ?, 0) of RANK 2", ARGUMENT, 0, 1, n -> x.restColumn(0, n, 0));
    needsFromTo("restColumn(0, 1, ?)", ARGUMENT, 0, 3, n -> x.restColumn(0, 1, n));
    due("restColumn(0, 0, 2)", 1, () -> x.restColumn(0, 0, 2));
    due("restColumn(0, 1, 3)", 1, () -> x.restColumn(0, 1, 3));
    due("restColumn(0, 1, 2)", 0, () -> x.restColumn(0, 1, 2));
  }

  @Says(at = "Promise 29: restColumn", words = "Throws `IllegalArgumentException` if there is no such REST COLUMN or number")
  void restColumnOfEachRank() {
    String[] texts = {"0 0 0", "1 0 0", "1 0 0/0 1 0", "1 0 0/0 1 0/0 0 1"};
    for (int rank = 0; rank <= 3; rank++) {
      x = new Gridmender();
      set(0, texts[rank]);
      if (rank < 3) {
        needsFromTo("restColumn(0, ?, 2) of RANK " + rank, ARGUMENT, 0, 2 - rank, n -> x.restColumn(0, n, 2));
      }
      int behind = 3 - rank;
      isThrown("restColumn(0, " + behind + ", 0) of RANK " + rank, ARGUMENT, () -> x.restColumn(0, behind, 0));
    }
    set(0, "1/0/0");
    isThrown("restColumn(0, 0, 0) of one COLUMN and RANK 1", ARGUMENT, () -> x.restColumn(0, 0, 0));
    set(0, "0/0/0");
    due("restColumn(0, 0, 0) of one COLUMN and RANK 0", 1, () -> x.restColumn(0, 0, 0));
    isThrown("restColumn(0, 0, 1): there is one number", ARGUMENT, () -> x.restColumn(0, 0, 1));
  }

  // ---- 30: rest

  @Says(at = "Promise 30: rest", words = "Returns its numbers with \" \" between.")
  void restOfOneToFourNumbers() {
    set(0, "-3");
    due("rest(0, 2) of -3", "2", () -> x.rest(0, 2));
    set(0, "2 0 0 0/0 2 0 0/0 0 2 0/0 0 0 2");
    due("rest(0, 0)", "0 0 0 0", () -> x.rest(0, 0));
    due("rest(0, 1)", "0 0 0 1", () -> x.rest(0, 1));
    due("rest(0, 8)", "1 0 0 0", () -> x.rest(0, 8));
    due("rest(0, 15)", "1 1 1 1", () -> x.rest(0, 15));
    set(0, "20 20 20 20/20 -20 20 -20/20 20 -20 -20/20 -20 -20 20");
    due("rest(0, 2559999)", "19 39 39 79", () -> x.rest(0, 2559999));
    due("rest(0, 2560000)", ARGUMENT, () -> x.rest(0, 2560000));
  }

  @Says(at = "Promise 30: rest", words = "Throws `IndexOutOfBoundsException` if there is no such TABLE")
  void restNeedsTable() {
    for (int i = 0; i < 4; i++) {
      x.unit(i, 2);
    }
    needsTable("rest(?, 0)", t -> x.rest(t, 0));
    due("rest(3, 0)", "0 0", () -> x.rest(3, 0));
  }

  @Says(at = "Promise 30: rest", words = "Throws `IllegalStateException` if it leaves none (section 6)")
  void restNeedsRests() {
    isThrown("rest(0, 0) of DETERMINANT 0", STATE, () -> x.rest(0, 0));
    set(0, "1 0 0/0 1 0");
    isThrown("rest(0, 0) of 2 x 3", STATE, () -> x.rest(0, 0));
    set(0, "1 0/0 1/0 0");
    isThrown("rest(0, 0) of 3 x 2", STATE, () -> x.rest(0, 0));
    set(0, "1 2/3 6");
    isThrown("rest(0, 0) of 1 2/3 6", STATE, () -> x.rest(0, 0));
    set(0, "1 2/3 5");
    due("rest(0, 0) of 1 2/3 5", "0 0", () -> x.rest(0, 0));
    set(0, Tables.ROW_STEPS_W_1000000001);
    isThrown("rest(0, 0) of GREAT ROW STEPS", STATE, () -> x.rest(0, 0));
    set(0, Tables.ROW_STEPS_W_1000000000);
    due("rest(0, 0)", "0 0 0 0", () -> x.rest(0, 0));
  }

  @Says(at = "Promise 30: rest", words = "Throws `IllegalArgumentException` if there is no such REST")
  void restNeedsNumber() {
    set(0, "2 0/0 3");
    needsFromTo("rest(0, ?)", ARGUMENT, 0, 5, n -> x.rest(0, n));
    set(0, "1 0/0 1");
    needsFromTo("rest(0, ?) of the UNIT table", ARGUMENT, 0, 0, n -> x.rest(0, n));
    set(0, "20");
    needsFromTo("rest(0, ?) of 20", ARGUMENT, 0, 19, n -> x.rest(0, n));
  }

  // ---- 31: restOf

  @Says(at = "Promise 31: restOf", words = "Returns the number of the REST that the ROW has by the TABLE.")
  void restOfOwnRowsIsNull() {
    set(0, "5 3/2 9");
    set(1, "0 0/0 1/0 -1/1 0");
    due("restOf(0, 0, 0)", 0, () -> x.restOf(0, 0, 0));
    due("restOf(0, 0, 1)", 0, () -> x.restOf(0, 0, 1));
    // H is 1 24/0 39.
    due("restOf(0, 1, 0)", 0, () -> x.restOf(0, 1, 0));
    due("restOf(0, 1, 1)", 1, () -> x.restOf(0, 1, 1));
    due("restOf(0, 1, 2): the last one", 38, () -> x.restOf(0, 1, 2));
    due("restOf(0, 1, 3): 0 -24", 15, () -> x.restOf(0, 1, 3));
  }

  @Says(at = "Promise 31: restOf", words = "Throws `IndexOutOfBoundsException` if there is no such TABLE (both), or no such ROW")
  void restOfNeedsTablesAndRow() {
    for (int i = 0; i < 4; i++) {
      x.unit(i, 2);
    }
    needsTable("restOf(?, 1, 0)", t -> x.restOf(t, 1, 0));
    needsTable("restOf(1, ?, 0)", t -> x.restOf(1, t, 0));
    x.make(1, 3, 2);
    needsFromTo("restOf(0, 1, ?)", INDEX, 0, 2, n -> x.restOf(0, 1, n));
    x.make(1, 1, 2);
    needsFromTo("restOf(0, 1, ?)", INDEX, 0, 0, n -> x.restOf(0, 1, n));
  }

  @Says(at = "Promise 31: restOf", words = "Throws `IllegalStateException` if the first one leaves none (section 6)")
  void restOfNeedsRests() {
    set(1, "1 1");
    set(0, "1 2/3 6");
    isThrown("restOf(0, 1, 0) of DETERMINANT 0", STATE, () -> x.restOf(0, 1, 0));
    set(0, "1 2/3 5");
    due("restOf(0, 1, 0) of DETERMINANT -1", 0, () -> x.restOf(0, 1, 0));
    set(0, "1 2");
    isThrown("restOf(0, 1, 0) of 1 x 2", STATE, () -> x.restOf(0, 1, 0));
    // Whether the second one would leave any does not matter.
    x.unit(0, 2);
    due("restOf(0, 1, 0) of the UNIT table", 0, () -> x.restOf(0, 1, 0));
    set(0, Tables.ROW_STEPS_W_1000000001);
    isThrown("restOf(0, 0, 0) of GREAT ROW STEPS", STATE, () -> x.restOf(0, 0, 0));
  }

  @Says(at = "Promise 31: restOf", words = "Throws `IllegalArgumentException` if they have unlike numbers of COLUMNS")
  void restOfNeedsAsManyColumns() {
    x.unit(0, 2);
    for (int columns = 1; columns <= 4; columns++) {
      x.make(1, 3, columns);
      due("restOf(0, 1, 2) of 2 COLUMNS and " + columns, columns == 2 ? 0 : ARGUMENT, () -> x.restOf(0, 1, 2));
    }
    isThrown("restOf(0, 1, 0)", ARGUMENT, () -> x.restOf(0, 1, 0));
  }

  // ---- 32: house

  @Says(at = "Promise 32: house", words = "0 how many acts were done (those above, that threw nothing and were not REFUSED)")
  void houseCountsActs() {
    isDone("make(0, 2, 2)", 0, () -> x.make(0, 2, 2));
    isDone("unit(0, 2)", 0, () -> x.unit(0, 2));
    isDone("put(0, 0, 0, 1): nothing is another one", 0, () -> x.put(0, 0, 0, 1));
    isDone("sow(0, 1, 0)", 4, () -> x.sow(0, 1, 0));
    isDone("copy(0, 0)", 0, () -> x.copy(0, 0));
    isDone("swap(0, 0)", 0, () -> x.swap(0, 0));
    isDone("flip(0)", 2, () -> x.flip(0));
    isDone("exchange(0, false, 0, 0)", 0, () -> x.exchange(0, false, 0, 0));
    isDone("turn(0, false, 0)", 0, () -> x.turn(0, false, 0));
    isDone("add(0, false, 0, 1, 0)", 0, () -> x.add(0, false, 0, 1, 0));
    isDone("widen(0, false)", 3, () -> x.widen(0, false));
    isDone("drop(0, false, 0)", 2, () -> x.drop(0, false, 0));
    isDone("sum(0, 0, true, 0)", 0, () -> x.sum(0, 0, true, 0));
    isDone("multiply(0, 0, 0)", 0, () -> x.multiply(0, 0, 0));
    isDone("take(0, 0, 0)", 0, () -> x.take(0, 0, 0));
    isDone("solve(0, 0, 0, 0)", 0, () -> x.solve(0, 0, 0, 0));
    due("house(0)", 16, () -> x.house(0));
    isThrown("make(0, 5, 5)", ARGUMENT, () -> x.make(0, 5, 5));
    isRefused("drop(0, true, 0)", () -> x.drop(0, true, 0));
    due("house(0)", 16, () -> x.house(0));
  }

  @Says(at = "Promise 32: house", words = "0 how many acts were done (those above, that threw nothing and were not REFUSED)")
  void houseDoesNotCountAsks() {
    x.unit(0, 2);
    String before = state();
    due("shape", 2, () -> x.shape(0, true));
    due("at", 0, () -> x.at(0, 0, 1));
    due("text", "1 0/0 1", () -> x.text(0));
    due("isSame", true, () -> x.isSame(0, 0));
    due("determinant", 1, () -> x.determinant(0, 2));
    due("minor", 1, () -> x.minor(0, 1, 1));
    due("divisor", 1, () -> x.divisor(0, 2));
    due("rank", 2, () -> x.rank(0, 1));
    due("told", 1, () -> x.told(0, 2, 0, 0));
    due("change", 1, () -> x.change(0, 3));
    due("isSolvable", true, () -> x.isSolvable(0, 0, 0, 0));
    due("isSolvable", true, () -> x.isSolvable(0, 0, 0, 1));
    due("restColumn", 1, () -> x.restColumn(1, 0, 0));
    due("rest", "0 0", () -> x.rest(0, 0));
    due("restOf", 0, () -> x.restOf(0, 0, 0));
    due("house", 1, () -> x.house(0));
    due("isSound", true, () -> x.isSound());
    due("what stands behind all asks", before, this::state);
    x.knock();
    due("house(0) behind a knock", 1, () -> x.house(0));
  }

  @Says(at = "Promise 32: house", words = "1 how often REFUSED was told")
  void houseCountsRefused() {
    due("house(1)", 0, () -> x.house(1));
    x.drop(0, false, 0);
    due("house(1)", 1, () -> x.house(1));
    x.drop(0, true, 0);
    due("house(1)", 2, () -> x.house(1));
    isThrown("drop(0, false, 1)", INDEX, () -> x.drop(0, false, 1));
    isDone("widen(0, false)", 2, () -> x.widen(0, false));
    due("house(1)", 2, () -> x.house(1));
  }

  @Says(at = "Promise 32: house", words = "2 how often one knocked")
  void houseCountsKnocks() {
    due("house(2)", 0, () -> x.house(2));
    x.knock();
    due("house(2)", 1, () -> x.house(2));
    x.unit(0, 2);
    x.drop(1, false, 0);
    due("house(2)", 1, () -> x.house(2));
    x.knock();
    due("house(2)", 2, () -> x.house(2));
  }

  @Says(at = "Promise 32: house", words = "3 how many pairs of TABLES (of unlike numbers, each pair once) are alike")
  void houseCountsPairs() {
    due("house(3) of four alike", 6, () -> x.house(3));
    x.put(3, 0, 0, 1);
    due("house(3) of three alike", 3, () -> x.house(3));
    x.put(0, 0, 0, 1);
    due("house(3) of two and two", 2, () -> x.house(3));
    x.make(0, 1, 2);
    due("house(3) of two alike", 1, () -> x.house(3));
    x.make(1, 2, 1);
    due("house(3) of none alike", 0, () -> x.house(3));
    for (int i = 0; i < 4; i++) {
      for (int j = i + 1; j < 4; j++) {
        for (int k = 0; k < 4; k++) {
          x.make(k, 1, k + 1);
        }
        x.copy(i, j);
        due("house(3) of " + i + " and " + j, 1, () -> x.house(3));
      }
    }
  }

  @Says(at = "Promise 32: house", words = "Throws `IllegalArgumentException` if what is not 0 to 3")
  void houseNeedsWhat() {
    needsFromTo("house(?)", ARGUMENT, 0, 3, n -> x.house(n));
  }

  // ---- 33: knock

  @Says(at = "Promise 33: knock", words = "Knocks (no act).")
  void knockIsNoAct() {
    x.knock();
    due("house(0)", 0, () -> x.house(0));
    due("house(1)", 0, () -> x.house(1));
    due("house(3)", 6, () -> x.house(3));
  }

  @Says(at = "Promise 33: knock", words = "Returns how often one knocked, with this.")
  void knockCountsThis() {
    due("the first knock()", 1, () -> x.knock());
    due("the second knock()", 2, () -> x.knock());
    x.put(0, 0, 0, 1);
    due("the third knock()", 3, () -> x.knock());
    due("house(2)", 3, () -> x.house(2));
    x = new Gridmender();
    due("the first knock() of another object", 1, () -> x.knock());
  }

  // ---- 34: isSound

  @Says(at = "Promise 34: isSound", words = "whether all of this is so (it always is) of the TABLE 0, if it has at most 3 ROWS and at most 3 COLUMNS")
  void isSoundOfAllShapes() {
    due("isSound()", true, () -> x.isSound());
    for (int rows = 1; rows <= 4; rows++) {
      for (int columns = 1; columns <= 4; columns++) {
        x.make(0, rows, columns);
        due("isSound() of 0s, " + rows + " x " + columns, true, () -> x.isSound());
        for (int seed = 0; seed < 5; seed++) {
          x.sow(0, 11111 * seed + rows, 20);
          due("isSound() of " + x.text(0), true, () -> x.isSound());
        }
      }
    }
  }

  @Says(at = "Promise 34: isSound", words = "as far as what is reckoned by STEPS (section 4) is not GREAT by these, and what is by ROW STEPS not by those")
  void isSoundOfGreatSteps() {
    set(0, Tables.STEPS_GREAT_OF_3_ROWS);
    due("change(0, 1)", 1, () -> x.change(0, 1));
    due("isSound()", true, () -> x.isSound());
    set(0, Tables.ROW_STEPS_GREAT_BUT_NOT_STEPS);
    due("isSound() of 4 x 4", true, () -> x.isSound());
    set(0, Tables.STEPS_GREAT_BUT_NOT_ROW_STEPS);
    due("isSound() of 4 x 4", true, () -> x.isSound());
  }

  // ---- 35: digest

  /** The checksum of these numbers. */
  private static long mixed(int... numbers) {
    long d = 8032;
    for (int v : numbers) {
      d = d * 31 + v;
    }
    return d;
  }

  @Says(at = "Promise 35: digest", words = "A number d starts with 8032")
  void digestOfANewObject() {
    due("digest()", mixed(1, 1, 0, 1, 1, 0, 1, 1, 0, 1, 1, 0, 0, 0, 0, 6, 1), () -> x.digest());
  }

  @Says(at = "Promise 35: digest", words = "TABLE by TABLE how many ROWS and COLUMNS it has, its NUMBERS ROW by ROW; house() of 0 to 3; 1 if isSound(), otherwise 0")
  void digestOfEachTable() {
    set(0, "1 -2 3");
    set(1, "4/-5");
    set(2, "6 7/8 -9");
    set(3, "20");
    x.knock();
    x.drop(3, false, 0);
    x.drop(3, true, 0);
    due("digest()", mixed(1, 3, 1, -2, 3, 2, 1, 4, -5, 2, 2, 6, 7, 8, -9, 1, 1, 20, 14, 2, 1, 0, 1), () -> x.digest());
    due("digest() again", mixed(1, 3, 1, -2, 3, 2, 1, 4, -5, 2, 2, 6, 7, 8, -9, 1, 1, 20, 14, 2, 1, 0, 1),
        () -> x.digest());
  }

  @Says(at = "Promise 35: digest", words = "then d becomes d * 31 + v, which wraps around as a 64-bit integer")
  void digestWrapsAround() {
    int[] all = new int[77];
    for (int i = 0; i < 4; i++) {
      x.make(i, 4, 4);
      x.sow(i, 0, 20);
      all[18 * i] = 4;
      all[18 * i + 1] = 4;
      for (int place = 0; place < 16; place++) {
        all[18 * i + 2 + place] = x.at(i, place / 4, place % 4);
      }
    }
    all[72] = 8;
    all[75] = 6;
    all[76] = 1;
    java.math.BigInteger d = java.math.BigInteger.valueOf(8032);
    for (int v : all) {
      d = d.multiply(java.math.BigInteger.valueOf(31)).add(java.math.BigInteger.valueOf(v));
    }
    long want = d.longValue();
    due("digest()", want, () -> x.digest());
  }
}
