/** Sentences of "What it is", of the Description, and of its sections 1 and 2. */
final class TermsSentences extends Sentences {
  // ---- What it is

  @Says(at = "What it is", words = "An object is used for at most 512 calls after it has been made")
  void theLastCallOf512() {
    for (int i = 1; i <= 511; i++) {
      int count = i;
      due("knock() " + i, count, () -> x.knock());
    }
    due("the 512th call", 512, () -> x.knock());
  }

  @Says(at = "What it is", words = "An object is used for at most 512 calls after it has been made")
  void theLastActOf512() {
    x.make(0, 1, 2);
    x.put(0, 0, 1, 1);
    for (int i = 0; i < 254; i++) {
      x.add(0, true, 0, 1, 20);
      x.add(0, true, 0, 1, -20);
    }
    due("the 511th call", 1, () -> x.add(0, true, 0, 1, 20));
    due("the 512th call", 511, () -> x.house(0));
  }

  // ---- Description

  private void solvable(String table, String column, boolean want) {
    set(0, table);
    set(1, column);
    due("isSolvable(0, 1, 0, 0) of " + table + " and " + column, want, () -> x.isSolvable(0, 1, 0, 0));
    due("isSolvable(0, 1, 0, 1) of " + table + " and " + column, want, () -> x.isSolvable(0, 1, 0, 1));
  }

  @Says(at = "Description", words = "SIZE of a number: it without its sign.")
  void sizeIsWithoutTheSign() {
    stepsTo("2/-1", "1/0", "0 -1/1 2");
    stepsTo("-2/1", "1/0", "0 1/1 2");
    stepsTo("-1/2", "1/0", "-1 0/2 1");
    goesTo("20 -4", "4 0", "-1", "0 1/1 5");
    goesTo("-20 4", "4 0", "1", "0 1/1 5");
  }

  @Says(at = "Description", words = "0 divides 0 alone")
  void nullDividesNullAlone() {
    solvable("0", "0", true);
    solvable("0", "1", false);
    solvable("0", "-1", false);
    solvable("0", "20", false);
  }

  @Says(at = "Description", words = "each divides 0")
  void eachDividesNull() {
    solvable("1", "0", true);
    solvable("-20", "0", true);
    goesTo("7 0/0 0", "7 0/0 0", "1 0/0 1", "1 0/0 1");
    goesTo("0 0/0 0", "0 0/0 0", "1 0/0 1", "1 0/0 1");
  }

  @Says(at = "Description", words = "One divides another one, if that is a whole multiple of it")
  void dividesAWholeMultiple() {
    solvable("5", "20", true);
    solvable("5", "-5", true);
    solvable("-5", "15", true);
    solvable("5", "19", false);
    solvable("5", "-6", false);
    solvable("5", "1", false);
  }

  @Says(at = "Description", words = "To divide rounded DOWN: the greatest whole number that is no more than the quotient.")
  void dividedDownByRests() {
    set(0, "3");
    int[] wants = {2, 0, 1, 2, 0, 1, 2, 0, 1, 2, 0};
    for (int number = -4; number <= 6; number++) {
      x.put(1, 0, 0, number);
      due("restOf(0, 1, 0) of " + number, wants[number + 4], () -> x.restOf(0, 1, 0));
    }
  }

  @Says(at = "Description", words = "To divide rounded DOWN: the greatest whole number that is no more than the quotient.")
  void dividedDownByRowSteps() {
    stepsTo("1 -3/0 2", "1 1/0 2", "1 2/0 1");
    stepsTo("1 -2/0 2", "1 0/0 2", "1 1/0 1");
    stepsTo("1 -1/0 2", "1 1/0 2", "1 1/0 1");
    stepsTo("1 0/0 2", "1 0/0 2", "1 0/0 1");
    stepsTo("1 1/0 2", "1 1/0 2", "1 0/0 1");
    stepsTo("1 2/0 2", "1 0/0 2", "1 -1/0 1");
    stepsTo("2/-3", "1/0", "2 1/-3 -2");
    stepsTo("2/-4", "2/0", "1 0/2 1");
  }

  @Says(at = "Description", words = "To divide rounded DOWN: the greatest whole number that is no more than the quotient.")
  void dividedDownBySteps() {
    goesTo("2 -3", "1 0", "1", "2 -3/1 -2");
    goesTo("2 -4", "2 0", "1", "1 2/0 1");
    goesTo("2 3", "1 0", "1", "-1 3/1 -2");
    goesTo("2/-3", "1/0", "2 1/-3 -2", "1");
  }

  @Says(at = "Description", words = "REFUSED is -9: only acts tell it, where they say so")
  void onlyActsTellRefused() {
    set(0, "-9");
    due("at(0, 0, 0)", REFUSED, () -> x.at(0, 0, 0));
    due("determinant(0, 0)", REFUSED, () -> x.determinant(0, 0));
    due("determinant(0, 2)", REFUSED, () -> x.determinant(0, 2));
    due("minor(0, 1, 1)", REFUSED, () -> x.minor(0, 1, 1));
    due("house(1): an answer of -9 that is asked for is none", 0, () -> x.house(1));
    set(1, "1/1");
    due("isSolvable(0, 1, 0, 0) is not REFUSED", ARGUMENT, () -> x.isSolvable(0, 1, 0, 0));
    due("told(0, 0, 1, 0) is not REFUSED", ARGUMENT, () -> x.told(0, 0, 1, 0));
    due("house(1)", 0, () -> x.house(1));
    due("solve(0, 1, 0, 2)", REFUSED, () -> x.solve(0, 1, 0, 2));
    due("house(1)", 1, () -> x.house(1));
  }

  @Says(at = "Description", words = "nothing is changed then, but that house() of 1 counts it")
  void refusedChangesNothing() {
    set(0, "20 1/1 20");
    set(1, "1 2 3");
    set(2, "1 0 0 0/0 1 0 0/0 0 1 0/0 0 0 1");
    x.knock();
    isRefused("add(0, false, 0, 1, 1)", () -> x.add(0, false, 0, 1, 1));
    isRefused("add(0, true, 1, 0, 20)", () -> x.add(0, true, 1, 0, 20));
    isRefused("widen(2, false)", () -> x.widen(2, false));
    isRefused("drop(1, false, 0)", () -> x.drop(1, false, 0));
    isRefused("sum(0, 0, false, 3)", () -> x.sum(0, 0, false, 3));
    isRefused("sum(0, 1, false, 3)", () -> x.sum(0, 1, false, 3));
    isRefused("multiply(0, 1, 3)", () -> x.multiply(0, 1, 3));
    isRefused("multiply(0, 0, 0)", () -> x.multiply(0, 0, 0));
    isRefused("take(0, 0, 0)", () -> x.take(0, 0, 0));
    isRefused("take(0, 2, 3)", () -> x.take(0, 2, 3));
    isRefused("solve(0, 1, 0, 3)", () -> x.solve(0, 1, 0, 3));
    isRefused("solve(1, 0, 0, 3)", () -> x.solve(1, 0, 0, 3));
    due("house(1)", 12, () -> x.house(1));
  }

  // ---- 1. Tables

  @Says(at = "1. Tables", words = "There are TABLES 0 to 3")
  void tablesFrom0To3() {
    for (int i = 0; i < 4; i++) {
      int table = i;
      isDone("put(" + i + ", 0, 0, 1)", 1, () -> x.put(table, 0, 0, 1));
      is(i, "1");
    }
    for (int table : new int[] {-1, 4, LOW, HIGH}) {
      isThrown("put(" + table + ", 0, 0, 1)", INDEX, () -> x.put(table, 0, 0, 1));
      isThrown("text(" + table + ")", INDEX, () -> x.text(table));
    }
  }

  @Says(at = "1. Tables", words = "each with 1 to 4 ROWS and 1 to 4 COLUMNS, both counted from 0")
  void from1To4RowsAndColumns() {
    for (int rows = 1; rows <= 4; rows++) {
      for (int columns = 1; columns <= 4; columns++) {
        int r = rows;
        int c = columns;
        x.make(0, rows, columns);
        due("shape(0, false)", rows, () -> x.shape(0, false));
        due("shape(0, true)", columns, () -> x.shape(0, true));
        due("put into the first", 1, () -> x.put(0, 0, 0, r + c));
        due("at the first", rows + columns, () -> x.at(0, 0, 0));
        due("put into the last", rows * columns == 1 ? 0 : 1, () -> x.put(0, r - 1, c - 1, r + c));
        due("at the last", rows + columns, () -> x.at(0, r - 1, c - 1));
        due("a ROW behind the last", INDEX, () -> x.at(0, r, 0));
        due("a COLUMN behind the last", INDEX, () -> x.at(0, 0, c));
        due("a ROW ahead of the first", INDEX, () -> x.at(0, -1, 0));
        due("a COLUMN ahead of the first", INDEX, () -> x.at(0, 0, -1));
      }
    }
  }

  @Says(at = "1. Tables", words = "a NUMBER at each place, -20 to 20 (LET)")
  void letIsFromLess20To20() {
    for (int number = -20; number <= 20; number++) {
      int n = number;
      x.put(0, 0, 0, number);
      due("at(0, 0, 0)", n, () -> x.at(0, 0, 0));
    }
    isThrown("put(0, 0, 0, 21)", ARGUMENT, () -> x.put(0, 0, 0, 21));
    isThrown("put(0, 0, 0, -21)", ARGUMENT, () -> x.put(0, 0, 0, -21));
  }

  @Says(at = "1. Tables", words = "At first each has one ROW, one COLUMN, and the NUMBER 0.")
  void atFirst() {
    for (int i = 0; i < 4; i++) {
      int table = i;
      due("shape(" + i + ", false)", 1, () -> x.shape(table, false));
      due("shape(" + i + ", true)", 1, () -> x.shape(table, true));
      due("at(" + i + ", 0, 0)", 0, () -> x.at(table, 0, 0));
      due("at(" + i + ", 1, 0)", INDEX, () -> x.at(table, 1, 0));
      due("at(" + i + ", 0, 1)", INDEX, () -> x.at(table, 0, 1));
    }
  }

  @Says(at = "1. Tables", words = "An act that would put a number that is not LET into a TABLE is REFUSED.")
  void greatestLetByAdd() {
    set(0, "19 1 -1/-19 1 -1");
    isDone("add(0, true, 0, 2, 1) to -20", 2, () -> x.add(0, true, 0, 2, 1));
    is(0, "18 1 -1/-20 1 -1");
    isRefused("add(0, true, 0, 2, 1) to -21", () -> x.add(0, true, 0, 2, 1));
    isRefused("add(0, true, 0, 1, -1) to -21", () -> x.add(0, true, 0, 1, -1));
    isDone("add(0, true, 0, 1, 2) to 20", 2, () -> x.add(0, true, 0, 1, 2));
    is(0, "20 1 -1/-18 1 -1");
    isRefused("add(0, true, 0, 1, 1) to 21", () -> x.add(0, true, 0, 1, 1));
  }

  @Says(at = "1. Tables", words = "An act that would put a number that is not LET into a TABLE is REFUSED.")
  void greatestLetBySum() {
    sumOf("10", "10", false, 1);
    sumOf("10", "11", false, REFUSED);
    sumOf("-1", "-19", false, 1);
    sumOf("-2", "-19", false, REFUSED);
    sumOf("1", "-19", true, 1);
    sumOf("1", "-20", true, REFUSED);
    sumOf("-20", "0", true, 1);
    sumOf("-20", "1", true, REFUSED);
    sumOf("20", "20", true, 0);
    sumOf("20", "20", false, REFUSED);
    sumOf("0 0/0 20", "0 0/0 1", false, REFUSED);
    sumOf("0 0/0 20", "0 0/0 1", true, 1);
  }

  private void sumOf(String one, String other, boolean isLess, int want) {
    set(0, one);
    set(1, other);
    due("sum(0, 1, " + isLess + ", 2) of " + one + " and " + other, want, () -> x.sum(0, 1, isLess, 2));
  }

  @Says(at = "1. Tables", words = "An act that would put a number that is not LET into a TABLE is REFUSED.")
  void greatestLetByMultiply() {
    productOf("4", "5", 1);
    productOf("3", "7", REFUSED);
    productOf("-10", "2", 1);
    productOf("-7", "3", REFUSED);
    productOf("1 0/0 1", "20 0/0 -20", 2);
    productOf("1 0/1 1", "20 1/0 19", 4);
    productOf("1 0/1 1", "20 1/0 20", REFUSED);
    productOf("1 1/0 1", "20 0/1 0", REFUSED);
  }

  private void productOf(String one, String other, int want) {
    set(0, one);
    set(1, other);
    due("multiply(0, 1, 2) of " + one + " and " + other, want, () -> x.multiply(0, 1, 2));
  }

  @Says(at = "1. Tables", words = "A UNIT table has as many ROWS as COLUMNS, 1 where both have the same number, and 0 elsewhere.")
  void unitTables() {
    String[] wants = {"1", "1 0/0 1", "1 0 0/0 1 0/0 0 1", "1 0 0 0/0 1 0 0/0 0 1 0/0 0 0 1"};
    for (int i = 1; i <= 4; i++) {
      x.unit(0, i);
      is(0, wants[i - 1]);
    }
  }

  @Says(at = "1. Tables", words = "What follows is done with numbers of any SIZE, where it is not said to be GREAT.")
  void anySizeOnTheWay() {
    // On the way to 20 the sum is 400, -400 and so on: only what is put has to be LET.
    productOf("20 20 20 20", "20/20/-20/-19", 1);
    is(2, "20");
    productOf("20 20 20 20", "-20/-20/20/19", 1);
    is(2, "-20");
    productOf("20 20 20 20", "20/20/-20/-20", 0);
    is(2, "0");
  }

  @Says(at = "1. Tables", words = "to exchange two; to turn the signs of one; to add so many times one to another one. Likewise of COLUMNS.")
  void changesOfRowsAndColumns() {
    set(0, "1 2/3 4");
    x.exchange(0, false, 0, 1);
    is(0, "3 4/1 2");
    x.turn(0, false, 1);
    is(0, "3 4/-1 -2");
    x.add(0, false, 0, 1, 2);
    is(0, "1 0/-1 -2");
    x.exchange(0, true, 0, 1);
    is(0, "0 1/-2 -1");
    x.turn(0, true, 1);
    is(0, "0 -1/-2 1");
    x.add(0, true, 1, 0, 3);
    is(0, "0 -1/-2 -5");
  }

  @Says(at = "1. Tables", words = "The PRODUCT of a first table with as many COLUMNS as a second one has ROWS")
  void productNeedsAsManyColumnsAsRows() {
    for (int columns = 1; columns <= 4; columns++) {
      for (int rows = 1; rows <= 4; rows++) {
        x.make(0, 2, columns);
        x.make(1, rows, 3);
        due("multiply(0, 1, 2) of " + columns + " COLUMNS and " + rows + " ROWS", columns == rows ? 0 : REFUSED,
            () -> x.multiply(0, 1, 2));
      }
    }
  }

  @Says(at = "1. Tables", words = "at the ROW i and the COLUMN j stands the sum, over all k, of what the first one has at i, k by what the second one has at k, j.")
  void productOverAllK() {
    set(0, "1 2 3 4");
    set(1, "1/1/1/1");
    x.multiply(0, 1, 2);
    is(2, "10");
    set(0, "1 2 -3 4");
    set(1, "0 1/-1 0/1 2/2 0");
    x.multiply(0, 1, 2);
    is(2, "3 -5");
    set(0, "1/2/-3/4");
    set(1, "5 0 -5 1");
    x.multiply(0, 1, 2);
    is(2, "5 0 -5 1/10 0 -10 2/-15 0 15 -3/20 0 -20 4");
  }

  // ---- 2. Determinants

  private void determinants(String text, int want) {
    set(0, text);
    for (int how = 0; how <= 2; how++) {
      int by = how;
      due("determinant(0, " + how + ") of " + text, want, () -> x.determinant(0, by));
    }
  }

  @Says(at = "2. Determinants", words = "that of one NUMBER is this")
  void determinantOfOneNumber() {
    determinants("0", 0);
    determinants("1", 1);
    determinants("-1", -1);
    determinants("20", 20);
    determinants("-20", -20);
  }

  @Says(at = "2. Determinants", words = "the sum, over all COLUMNS j, of the NUMBER at the ROW 0 and j by the DETERMINANT of what is left without the ROW 0 and the COLUMN j, taken off in place of added if j is odd")
  void determinantByColumns() {
    determinants("5 0/0 1", 5);
    determinants("0 5/1 0", -5);
    determinants("5 0 0/0 1 0/0 0 1", 5);
    determinants("0 5 0/1 0 0/0 0 1", -5);
    determinants("0 0 5/1 0 0/0 1 0", 5);
    determinants("5 0 0 0/0 1 0 0/0 0 1 0/0 0 0 1", 5);
    determinants("0 5 0 0/1 0 0 0/0 0 1 0/0 0 0 1", -5);
    determinants("0 0 5 0/1 0 0 0/0 1 0 0/0 0 0 1", 5);
    determinants("0 0 0 5/1 0 0 0/0 1 0 0/0 0 1 0", -5);
  }

  @Says(at = "2. Determinants", words = "taken off in place of added if an odd number of pairs stands there with the greater one ahead")
  void determinantByPairs() {
    determinants("1 0 0 0/0 1 0 0/0 0 1 0/0 0 0 1", 1);
    determinants("1 0 0 0/0 1 0 0/0 0 0 1/0 0 1 0", -1);
    determinants("1 0 0 0/0 0 0 1/0 1 0 0/0 0 1 0", 1);
    determinants("0 0 0 1/0 0 1 0/0 1 0 0/1 0 0 0", 1);
    determinants("0 0 0 1/0 1 0 0/0 0 1 0/1 0 0 0", -1);
    determinants("0 0 1/0 1 0/1 0 0", -1);
    determinants("0 0 1/1 0 0/0 1 0", 1);
  }

  @Says(at = "2. Determinants", words = "the sum, over all sequences of all COLUMNS, of the product of the NUMBERS")
  void greatestDeterminants() {
    determinants("20 20/-20 20", 800);
    determinants("20 20 20/20 -20 20/20 20 -20", 32000);
    determinants("20 20 20 20/20 -20 20 -20/20 20 -20 -20/20 -20 -20 20", 2560000);
    determinants("20 -20 20 -20/20 20 20 20/20 20 -20 -20/20 -20 -20 20", -2560000);
    determinants("20 20 20 20/20 20 20 20/20 20 20 20/20 20 20 20", 0);
  }

  private void divisors(String text, int... wants) {
    set(0, text);
    for (int i = 0; i < wants.length; i++) {
      int k = i;
      due("divisor(0, " + k + ") of " + text, wants[i], () -> x.divisor(0, k));
    }
  }

  @Says(at = "2. Determinants", words = "the greatest common divisor of the DETERMINANTS of all tables that are left if just k ROWS and k COLUMNS stay (in their order)")
  void divisorOfAllThatAreLeft() {
    divisors("6 10/15 0", 1, 1, 150);
    divisors("6 10/14 0", 1, 2, 140);
    divisors("6 0/0 10", 1, 2, 60);
    divisors("-6 9 15", 1, 3);
    divisors("-6/9/16", 1, 1);
    divisors("2 0 0/0 4 0/0 0 8", 1, 2, 8, 64);
    // Each pair of ROWS and of COLUMNS is looked at: but for one there are 0s alone.
    divisors("0 0 0 0/0 0 0 0/0 0 0 3/0 0 2 0", 1, 1, 6, 0, 0);
    divisors("3 0 0 2/0 0 0 0/0 0 0 0/0 0 0 3", 1, 1, 9, 0, 0);
  }

  @Says(at = "2. Determinants", words = "0 if all are 0; DIVISOR 0 is 1")
  void divisorOfNullsAndDivisorNull() {
    divisors("0", 1, 0);
    divisors("-1", 1, 1);
    divisors("20", 1, 20);
    divisors("0 0 0/0 0 0/0 0 0", 1, 0, 0, 0);
    divisors("0 0 0/0 0 0/0 0 -7", 1, 7, 0, 0);
    divisors("1 2/2 4", 1, 1, 0);
    divisors("1 2/2 5", 1, 1, 1);
  }

  private void ranks(String text, int want) {
    set(0, text);
    due("rank(0, 0) of " + text, want, () -> x.rank(0, 0));
    due("rank(0, 1) of " + text, want, () -> x.rank(0, 1));
  }

  @Says(at = "2. Determinants", words = "the greatest k with a DIVISOR that is not 0")
  void greatestRank() {
    ranks("1 0 0 0/0 1 0 0/0 0 1 0/0 0 0 1", 4);
    ranks("1 0 0 0/0 1 0 0/0 0 1 0/1 1 1 0", 3);
    ranks("1 0 0 0/0 1 0 0/1 1 0 0/1 -1 0 0", 2);
    ranks("1 2 3 4/2 4 6 8/3 6 9 12/-1 -2 -3 -4", 1);
    ranks("1 2 3 4/2 4 6 8/3 6 9 12/-1 -2 -3 -5", 2);
    ranks("0 0 0 1", 1);
    ranks("0/0/0/-1", 1);
  }

  @Says(at = "2. Determinants", words = "(0, if all NUMBERS are 0)")
  void rankOfNulls() {
    ranks("0", 0);
    ranks("1", 1);
    ranks("-1", 1);
    ranks("0 0 0 0", 0);
    ranks("0/0/0/0", 0);
    ranks("0 0 0 0/0 0 0 0/0 0 0 0/0 0 0 0", 0);
    ranks("0 0 0 0/0 0 0 0/0 0 0 0/0 0 0 1", 1);
  }
}
