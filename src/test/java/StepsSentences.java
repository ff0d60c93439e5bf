/** Sentences of the sections 3 to 6 of the Description. */
final class StepsSentences extends Sentences {
  // ---- 3. The stepped form

  @Says(at = "3. The stepped form", words = "for each COLUMN c from 0 on, as long as r is below the number of ROWS")
  void steppedAsLongAsThereAreRows() {
    stepsTo("1 -7", "1 -7", "1");
    stepsTo("0 -7", "0 7", "-1");
    stepsTo("1 0 -7/0 1 -9", "1 0 -7/0 1 -9", "1 0/0 1");
    stepsTo("1 0 -7/0 0 -9", "1 0 2/0 0 9", "1 -1/0 -1");
    stepsTo("0 0 0 0/0 0 0 -2", "0 0 0 2/0 0 0 0", "0 -1/1 0");
  }

  @Says(at = "3. The stepped form", words = "If all of W at the ROWS r, r + 1, .. in the COLUMN c are 0, the next COLUMN comes.")
  void columnOfNullsIsLeftOut() {
    stepsTo("0", "0", "1");
    stepsTo("0 0/0 0", "0 0/0 0", "1 0/0 1");
    stepsTo("0 2/0 3", "0 1/0 0", "-1 1/3 -2");
    stepsTo("1 4 7/0 0 3", "1 4 1/0 0 3", "1 -2/0 1");
    stepsTo("1 4 7/0 1 3", "1 0 -5/0 1 3", "1 -4/0 1");
  }

  @Says(at = "3. The stepped form", words = "of those that are not 0 there the one of the least SIZE is taken, of several that in the smallest ROW")
  void leastSizeInTheSmallestRow() {
    stepsTo("0/5", "5/0", "0 1/1 0");
    stepsTo("0/0/0/1", "1/0/0/0", "0 0 0 1/0 1 0 0/0 0 1 0/1 0 0 0");
    stepsTo("2/-2", "2/0", "1 0/1 1");
    stepsTo("-2/2", "2/0", "-1 0/1 1");
    stepsTo("3/-1/1", "1/0/0", "0 -1 0/1 3 0/0 1 1");
    stepsTo("3/1/-1", "1/0/0", "0 1 0/1 -3 0/0 1 1");
    stepsTo("-3/2", "1/0", "1 2/-2 -3");
    stepsTo("4 0/-20 1", "4 0/0 1", "1 0/5 1");
  }

  @Says(at = "3. The stepped form", words = "that ROW and the ROW r are exchanged, if they are not the same")
  void rowIsBroughtUp() {
    stepsTo("1 0/0 1", "1 0/0 1", "1 0/0 1");
    stepsTo("0 1/1 0", "1 0/0 1", "0 1/1 0");
    stepsTo("1 0 0/0 0 1/0 1 0", "1 0 0/0 1 0/0 0 1", "1 0 0/0 0 1/0 1 0");
  }

  @Says(at = "3. The stepped form", words = "if W at r, c is below 0, the signs of the ROW r are turned")
  void signsAreTurnedBelowNull() {
    stepsTo("1 -5", "1 -5", "1");
    stepsTo("-1 -5", "1 5", "-1");
    stepsTo("0 -5", "0 5", "-1");
    stepsTo("0 0", "0 0", "1");
    stepsTo("-20", "20", "-1");
  }

  @Says(at = "3. The stepped form", words = "For each ROW i from r + 1 on, with q = W at i, c divided by W at r, c, rounded DOWN: q times the ROW r is taken off the ROW i.")
  void eachRowBelowIsTakenOff() {
    stepsTo("1 1/1 1", "1 1/0 0", "1 0/-1 1");
    stepsTo("1/2/-3/20", "1/0/0/0", "1 0 0 0/-2 1 0 0/3 0 1 0/-20 0 0 1");
    stepsTo("2/0/0/-20", "2/0/0/0", "1 0 0 0/0 1 0 0/0 0 1 0/10 0 0 1");
  }

  @Says(at = "3. The stepped form", words = "If W at some ROW i from r + 1 on in the COLUMN c is not 0, (a) comes again, with the same c.")
  void sameColumnComesAgain() {
    stepsTo("4/8", "4/0", "1 0/-2 1");
    stepsTo("4/6", "2/0", "-1 1/3 -2");
    stepsTo("4/0/6", "2/0/0", "-1 0 1/0 1 0/3 0 -2");
    stepsTo("20/19/0", "1/0/0", "1 -1 0/-19 20 0/0 0 1");
  }

  @Says(at = "3. The stepped form", words = "Otherwise for each ROW i from 0 to r - 1, with q = W at i, c divided by W at r, c, rounded DOWN: q times the ROW r is taken off the ROW i")
  void eachRowAboveIsTakenOff() {
    stepsTo("1 2/0 3", "1 2/0 3", "1 0/0 1");
    stepsTo("1 3/0 3", "1 0/0 3", "1 -1/0 1");
    stepsTo("1 -1/0 3", "1 2/0 3", "1 1/0 1");
    stepsTo("1 -3/0 3", "1 0/0 3", "1 1/0 1");
    stepsTo("1 0 5/0 1 -1/0 0 2", "1 0 1/0 1 1/0 0 2", "1 0 -2/0 1 1/0 0 1");
    stepsTo("1 0 0 -20/0 1 0 20/0 0 1 7/0 0 0 1", "1 0 0 0/0 1 0 0/0 0 1 0/0 0 0 1",
        "1 0 0 20/0 1 0 -20/0 0 1 -7/0 0 0 1");
  }

  /** Whether the ROW STEPS of the TABLE 0 are GREAT, once it has these NUMBERS, by all that shows it. */
  private void greatRowSteps(String text, boolean isGreat) {
    set(0, text);
    due("change(0, 0) of " + text, isGreat ? 1 : 0, () -> x.change(0, 0));
    due("rank(0, 1) of " + text, isGreat, () -> Checks.tell(() -> x.rank(0, 1)).equals(STATE));
    due("told(0, 0, 0, 0) of " + text, isGreat, () -> Checks.tell(() -> x.told(0, 0, 0, 0)).equals(STATE));
    due("told(0, 1, 0, 0) of " + text, isGreat, () -> Checks.tell(() -> x.told(0, 1, 0, 0)).equals(STATE));
    due("change(0, 2) of " + text, isGreat, () -> Checks.tell(() -> x.change(0, 2)).equals(STATE));
  }

  @Says(at = "3. The stepped form", words = "if behind some change of a ROW some number of W or C has a SIZE above 1000000000")
  void greatestNumberOfW() {
    greatRowSteps(Tables.ROW_STEPS_W_1000000000, false);
    greatRowSteps(Tables.ROW_STEPS_W_LESS_1000000000, false);
    greatRowSteps(Tables.ROW_STEPS_W_1000000001, true);
    greatRowSteps(Tables.ROW_STEPS_W_LESS_1000000001, true);
  }

  @Says(at = "3. The stepped form", words = "if behind some change of a ROW some number of W or C has a SIZE above 1000000000")
  void greatestNumberOfC() {
    greatRowSteps(Tables.ROW_STEPS_C_1000000000, false);
    greatRowSteps(Tables.ROW_STEPS_C_1000000001, true);
    greatRowSteps(Tables.ROW_STEPS_C_3999768750, true);
  }

  @Says(at = "3. The stepped form", words = "if behind some change of a ROW some number of W or C has a SIZE above 1000000000")
  void greatOnTheWayAlone() {
    // At the end the numbers of the STEPPED form by each other are this DIVISOR, so they are small.
    set(0, Tables.ROW_STEPS_W_1000000001);
    due("divisor(0, 4)", Tables.DIVISOR_OF_W_1000000001, () -> x.divisor(0, 4));
    due("change(0, 0)", 1, () -> x.change(0, 0));
    set(0, Tables.STEPS_L_1000000001);
    due("change(0, 0)", 0, () -> x.change(0, 0));
  }

  @Says(at = "3. The stepped form", words = "then neither is told")
  void greatRowStepsTellNeither() {
    set(0, Tables.ROW_STEPS_W_1000000001);
    isThrown("told(0, 0, 3, 0)", STATE, () -> x.told(0, 0, 3, 0));
    isThrown("told(0, 1, 3, 0)", STATE, () -> x.told(0, 1, 3, 0));
    isRefused("take(0, 0, 1)", () -> x.take(0, 0, 1));
    isRefused("take(0, 1, 1)", () -> x.take(0, 1, 1));
    set(0, Tables.ROW_STEPS_W_1000000000);
    due("told(0, 0, 3, 0)", 0, () -> x.told(0, 0, 3, 0));
    due("told(0, 1, 3, 0) throws", false, () -> Checks.tell(() -> x.told(0, 1, 3, 0)).equals(STATE));
  }

  // ---- 4. The diagonal

  @Says(at = "4. The diagonal", words = "For t from 0 on, as long as it is below the number of ROWS and below that of COLUMNS")
  void diagonalAsLongAsThereAreBoth() {
    goesTo("-3", "3", "-1", "1");
    goesTo("2 4 6", "2 0 0", "1", "1 -2 -3/0 1 0/0 0 1");
    goesTo("2/4/6", "2/0/0", "1 0 0/-2 1 0/-3 0 1", "1");
    goesTo("1 0/0 -2", "1 0/0 2", "1 0/0 -1", "1 0/0 1");
    goesTo("1 0 0/0 -2 4", "1 0 0/0 2 0", "1 0/0 -1", "1 0 0/0 1 2/0 0 1");
    goesTo("1 0/0 -2/0 4", "1 0/0 2/0 0", "1 0 0/0 -1 0/0 2 1", "1 0/0 1");
  }

  @Says(at = "4. The diagonal", words = "Of all in W that are not 0 at ROWS and COLUMNS from t on the one of the least SIZE is taken, of several that in the smallest ROW, of these that in the smallest COLUMN")
  void leastSizeInTheSmallestRowAndColumn() {
    goesTo("0 5", "5 0", "1", "0 1/1 0");
    goesTo("0/5", "5/0", "0 1/1 0", "1");
    goesTo("2 2", "2 0", "1", "1 -1/0 1");
    goesTo("4 -2 2", "2 0 0", "-1", "0 1 0/1 2 1/0 0 1");
    goesTo("2/2", "2/0", "1 0/-1 1", "1");
    goesTo("0 1/1 0", "1 0/0 1", "1 0/0 1", "0 1/1 0");
    goesTo("2 1/-1 2", "1 0/0 5", "1 0/2 -1", "0 1/1 -2");
    goesTo("0 0 0/0 0 0/0 0 -3", "3 0 0/0 0 0/0 0 0", "0 0 -1/0 1 0/1 0 0", "0 0 1/0 1 0/1 0 0");
    goesTo("2 0/0 -1", "1 0/0 2", "0 -1/1 0", "0 1/1 0");
  }

  @Says(at = "4. The diagonal", words = "if there is none, all is done")
  void noneIsLeft() {
    goesTo("0", "0", "1", "1");
    goesTo("0 0 0/0 0 0", "0 0 0/0 0 0", "1 0/0 1", "1 0 0/0 1 0/0 0 1");
    goesTo("0 0/0 1", "1 0/0 0", "0 1/1 0", "0 1/1 0");
    goesTo("1 2/2 4", "1 0/0 0", "1 0/-2 1", "1 -2/0 1");
    goesTo("1 2/2 3", "1 0/0 1", "1 0/2 -1", "1 -2/0 1");
  }

  @Says(at = "4. The diagonal", words = "Its ROW and the ROW t are exchanged, its COLUMN and the COLUMN t, too (each if they are not the same)")
  void rowAndColumnAreBrought() {
    goesTo("4 4/4 2", "2 0/0 4", "0 1/-1 2", "0 1/1 -2");
    goesTo("2 4/4 4", "2 0/0 4", "1 0/2 -1", "1 -2/0 1");
    goesTo("4 2/4 4", "2 0/0 4", "1 0/2 -1", "0 1/1 -2");
    goesTo("4 4/2 4", "2 0/0 4", "0 1/-1 2", "1 -2/0 1");
  }

  @Says(at = "4. The diagonal", words = "if W at t, t is below 0, the signs of the ROW t are turned")
  void signsAreTurnedOnTheDiagonal() {
    goesTo("-1", "1", "-1", "1");
    goesTo("1", "1", "1", "1");
    goesTo("0", "0", "1", "1");
    goesTo("-1 0/0 -1", "1 0/0 1", "-1 0/0 -1", "1 0/0 1");
  }

  @Says(at = "4. The diagonal", words = "Then for each COLUMN j from t + 1 on, with q = W at t, j divided by W at t, t, rounded DOWN: q times the COLUMN t is taken off the COLUMN j.")
  void rowsThenColumnsAreTakenOff() {
    goesTo("1 1 -2 20", "1 0 0 0", "1", "1 -1 2 -20/0 1 0 0/0 0 1 0/0 0 0 1");
    goesTo("1/1/-2/20", "1/0/0/0", "1 0 0 0/-1 1 0 0/2 0 1 0/-20 0 0 1", "1");
    goesTo("2 3/3 7", "1 0/0 5", "1 0/4 -1", "-1 3/1 -2");
  }

  @Says(at = "4. The diagonal", words = "If in the ROW t or in the COLUMN t another one than W at t, t is not 0, (a) comes again, with the same t.")
  void sameCrossComesAgain() {
    goesTo("4 8", "4 0", "1", "1 -2/0 1");
    goesTo("4 6", "2 0", "1", "-1 3/1 -2");
    goesTo("4/8", "4/0", "1 0/-2 1", "1");
    goesTo("4/6", "2/0", "-1 1/3 -2", "1");
    goesTo("4 0 0 6", "2 0 0 0", "1", "-1 0 0 3/0 1 0 0/0 0 1 0/1 0 0 -2");
    goesTo("4/0/0/6", "2/0/0/0", "-1 0 0 1/0 1 0 0/0 0 1 0/3 0 0 -2", "1");
  }

  @Says(at = "4. The diagonal", words = "if W at t, t does not divide all of W at ROWS and COLUMNS from t + 1 on")
  void eachOneDividesTheNext() {
    goesTo("2 0/0 4", "2 0/0 4", "1 0/0 1", "1 0/0 1");
    goesTo("2 0/0 -4", "2 0/0 4", "1 0/0 -1", "1 0/0 1");
    goesTo("2 0/0 0", "2 0/0 0", "1 0/0 1", "1 0/0 1");
    goesTo("2 0/0 3", "1 0/0 6", "1 1/3 2", "-1 3/1 -2");
    goesTo("2 0/0 2", "2 0/0 2", "1 0/0 1", "1 0/0 1");
  }

  @Says(at = "4. The diagonal", words = "the first ROW in which it does not (from t + 1 on) is added to the ROW t, and (a) comes again, with the same t")
  void firstRowThatIsNotDividedIsAdded() {
    set(0, "2 0 0/0 4 0/0 0 3");
    due("LEFT CHANGE: the ROW 2 is added", "1 0 1", () -> form(0, 3).split("/")[0]);
    due("DIAGONAL", "1 0 0/0 2 0/0 0 12", () -> form(0, 2));
    set(0, "2 0 0/0 3 0/0 0 3");
    due("LEFT CHANGE: the ROW 1 is added", "1 1 0", () -> form(0, 3).split("/")[0]);
    due("DIAGONAL", "1 0 0/0 3 0/0 0 6", () -> form(0, 2));
    set(0, "2 0 0/0 4 2/0 2 3");
    due("LEFT CHANGE: in the last COLUMN of the ROW 2 alone", "1 0 1", () -> form(0, 3).split("/")[0]);
  }

  /** The product of LEFT CHANGE, TABLE and RIGHT CHANGE at a place. */
  private long turned(int i, int j) {
    long sum = 0;
    for (int k = 0; k < x.shape(0, false); k++) {
      for (int l = 0; l < x.shape(0, true); l++) {
        sum += (long) x.told(0, 3, i, k) * x.at(0, k, l) * x.told(0, 4, l, j);
      }
    }
    return sum;
  }

  @Says(at = "4. The diagonal", words = "the PRODUCT of L, the TABLE and R is W")
  void productOfTheChangesIsTheDiagonal() {
    for (String text : new String[] {"6 -4/10 15", "5 3 -20/2 9 8", "2/-7/4"}) {
      set(0, text);
      for (int i = 0; i < x.shape(0, false); i++) {
        for (int j = 0; j < x.shape(0, true); j++) {
          int row = i;
          int column = j;
          due("L by " + text + " by R at " + i + ", " + j, (long) x.told(0, 2, i, j), () -> turned(row, column));
        }
      }
      x = new Gridmender();
    }
  }

  /** Whether the STEPS of the TABLE 0 are GREAT, once it has these NUMBERS, by all that shows it. */
  private void greatSteps(String text, boolean isGreat) {
    set(0, text);
    due("change(0, 1) of " + text, isGreat ? 1 : 0, () -> x.change(0, 1));
    for (int what = 2; what <= 4; what++) {
      int form = what;
      due("told(0, " + what + ", 0, 0) of " + text, isGreat,
          () -> Checks.tell(() -> x.told(0, form, 0, 0)).equals(STATE));
    }
    due("change(0, 3) of " + text, isGreat, () -> Checks.tell(() -> x.change(0, 3)).equals(STATE));
    due("change(0, 4) of " + text, isGreat, () -> Checks.tell(() -> x.change(0, 4)).equals(STATE));
    due("restColumn(0, 0, 0) of " + text, isGreat ? STATE : ARGUMENT, () -> x.restColumn(0, 0, 0));
  }

  @Says(at = "4. The diagonal", words = "GREAT is as in section 3, of W, L and R, behind each change of a ROW or a COLUMN.")
  void greatestNumberOfL() {
    greatSteps(Tables.STEPS_L_1000000000, false);
    greatSteps(Tables.STEPS_L_1000000001, true);
    greatSteps(Tables.STEPS_GREAT_OF_3_ROWS, true);
  }

  @Says(at = "4. The diagonal", words = "GREAT is as in section 3, of W, L and R, behind each change of a ROW or a COLUMN.")
  void greatestNumberOfR() {
    greatSteps(Tables.STEPS_R_999999995, false);
    greatSteps(Tables.STEPS_R_1000000012, true);
    greatSteps(Tables.STEPS_R_1432300058, true);
  }

  @Says(at = "4. The diagonal", words = "At the end W is the DIAGONAL, L the LEFT, R the RIGHT CHANGE")
  void greatestNumbersAreTold() {
    set(0, Tables.STEPS_L_1000000000);
    due("the greatest SIZE in the LEFT CHANGE", 1000000000, () -> greatestSize(form(0, 3)));
    set(0, Tables.ROW_STEPS_C_1000000000);
    due("the greatest SIZE in the ROW CHANGE", 1000000000, () -> greatestSize(form(0, 1)));
    set(0, Tables.STEPS_R_999999995);
    due("the greatest SIZE in the RIGHT CHANGE", 999999995, () -> greatestSize(form(0, 4)));
  }

  private static int greatestSize(String text) {
    int greatest = 0;
    for (String number : text.replace('/', ' ').split(" ")) {
      greatest = Math.max(greatest, Math.abs(Integer.parseInt(number)));
    }
    return greatest;
  }

  // ---- 5. Equations

  /** Both ways whether there is a SOLUTION of the TABLE 0 and the only COLUMN of the TABLE 1; and what solve() makes. */
  private void solved(String table, String column, String solution) {
    set(0, table);
    set(1, column);
    String of = " of " + table + " and " + column;
    due("isSolvable(0, 1, 0, 0)" + of, !solution.isEmpty(), () -> x.isSolvable(0, 1, 0, 0));
    due("isSolvable(0, 1, 0, 1)" + of, !solution.isEmpty(), () -> x.isSolvable(0, 1, 0, 1));
    if (solution.isEmpty()) {
      isRefused("solve(0, 1, 0, 2)" + of, () -> x.solve(0, 1, 0, 2));
    } else {
      due("solve(0, 1, 0, 2) is REFUSED" + of, false, () -> x.solve(0, 1, 0, 2) == REFUSED);
      is(2, solution);
    }
  }

  @Says(at = "5. Equations", words = "a SOLUTION is a column of n whole numbers of which the PRODUCT of the TABLE and it is that COLUMN")
  void solutionsOfWholeNumbers() {
    solved("2 4 4/-6 6 12", "2/6", "1/-2/2");
    x.multiply(0, 2, 3);
    is(3, "2/6");
    solved("3 5 7", "1", "-2/0/1");
    x.multiply(0, 2, 3);
    is(3, "1");
    solved("1/2/3", "-3/-6/-9", "-3");
  }

  @Says(at = "5. Equations", words = "They go, if the number of the DIAGONAL at k divides B at k, for each k below RANK")
  void divisionsBelowTheRank() {
    solved("4", "0", "0");
    solved("4", "4", "1");
    solved("4", "-20", "-5");
    solved("4", "3", "");
    solved("4", "-5", "");
    solved("1 0/0 3", "5/9", "5/3");
    solved("1 0/0 3", "5/8", "");
    solved("2 0/0 4", "6/8", "3/2");
    solved("2 0/0 4", "5/8", "");
    solved("2 0/0 4", "6/10", "");
    solved("1 0 0 0/0 1 0 0/0 0 1 0/0 0 0 2", "1/1/1/2", "1/1/1/1");
    solved("1 0 0 0/0 1 0 0/0 0 1 0/0 0 0 2", "1/1/1/1", "");
  }

  @Says(at = "5. Equations", words = "and B is 0 at all others")
  void divisionsFromTheRankOn() {
    solved("0", "0", "0");
    solved("0", "1", "");
    solved("1/1", "7/7", "7");
    solved("1/1", "7/8", "");
    solved("1/1/1/1", "7/7/7/7", "7");
    solved("1/1/1/1", "7/7/7/6", "");
    solved("1 2/2 4", "3/6", "3/0");
    solved("1 2/2 4", "3/7", "");
    solved("0 0/0 0", "0/0", "0/0");
    solved("0 0/0 0", "0/-1", "");
    solved("1 0 0/0 1 0/0 0 0/0 0 0", "4/5/0/0", "4/5/0");
    solved("1 0 0/0 1 0/0 0 0/0 0 0", "4/5/1/0", "");
    solved("1 0 0/0 1 0/0 0 0/0 0 0", "4/5/0/1", "");
  }

  @Says(at = "5. Equations", words = "for k below RANK B at k divided by the number of the DIAGONAL at k, otherwise 0")
  void numbersOfYBehindTheRankAreNull() {
    // R is 1 -1/0 1: another number of Y than 0 behind the RANK would show.
    solved("1 1", "3", "3/0");
    solved("0 0 0", "0", "0/0/0");
    solved("0 0 2 0", "-6", "0/0/-3/0");
    solved("1 0 0 5/0 0 1 7", "2/-3", "2/0/-3/0");
  }

  @Says(at = "5. Equations", words = "It is GREAT, if the STEPS are")
  void greatByTheSteps() {
    set(0, Tables.STEPS_L_1000000001);
    set(1, "0/0/0/0");
    isRefused("solve(0, 1, 0, 1) of GREAT STEPS", () -> x.solve(0, 1, 0, 1));
    set(0, Tables.STEPS_L_1000000000);
    isDone("solve(0, 1, 0, 1)", 0, () -> x.solve(0, 1, 0, 1));
  }

  @Says(at = "5. Equations", words = "if a number of Y or of it has a SIZE above 1000000000")
  void greatestNumberOfY() {
    set(0, Tables.STEPS_Y_1000000000);
    set(1, Tables.SOLUTION_OF_Y_1000000000);
    due("the COLUMN", 4, () -> x.multiply(0, 1, 2));
    isDone("solve(0, 2, 0, 3)", 2, () -> x.solve(0, 2, 0, 3));
    is(3, Tables.SOLUTION_OF_Y_1000000000);
    x.turn(2, true, 0);
    isDone("solve(0, 2, 0, 3) of the other sign", 2, () -> x.solve(0, 2, 0, 3));
    x.turn(3, true, 0);
    is(3, Tables.SOLUTION_OF_Y_1000000000);
  }

  @Says(at = "5. Equations", words = "if a number of Y or of it has a SIZE above 1000000000")
  void greatNumberOfY() {
    set(0, Tables.STEPS_Y_1000000001);
    set(1, Tables.SOLUTION_OF_Y_1000000001);
    due("the COLUMN", 4, () -> x.multiply(0, 1, 2));
    due("isSolvable(0, 2, 0, 0): the DIVISIONS go", true, () -> x.isSolvable(0, 2, 0, 0));
    isRefused("solve(0, 2, 0, 3), though the SOLUTION is LET", () -> x.solve(0, 2, 0, 3));
    x.turn(2, true, 0);
    isRefused("solve(0, 2, 0, 3) of the other sign", () -> x.solve(0, 2, 0, 3));
  }

  @Says(at = "5. Equations", words = "the COLUMNS RANK, RANK + 1, .. of the RIGHT CHANGE, counted from 0")
  void restColumnsFromTheRankOn() {
    set(0, "1 0 0/0 1 0");
    due("restColumn(0, 0, 2) of RANK 2", 1, () -> x.restColumn(0, 0, 2));
    due("restColumn(0, 0, 1) of RANK 2", 0, () -> x.restColumn(0, 0, 1));
    due("restColumn(0, 1, 0) of RANK 2", ARGUMENT, () -> x.restColumn(0, 1, 0));
    set(0, "1 0 0/0 0 0");
    due("restColumn(0, 0, 1) of RANK 1", 1, () -> x.restColumn(0, 0, 1));
    due("restColumn(0, 1, 2) of RANK 1", 1, () -> x.restColumn(0, 1, 2));
    due("restColumn(0, 2, 0) of RANK 1", ARGUMENT, () -> x.restColumn(0, 2, 0));
    set(0, "0 0 0/0 0 0");
    due("restColumn(0, 0, 0) of RANK 0", 1, () -> x.restColumn(0, 0, 0));
    due("restColumn(0, 2, 2) of RANK 0", 1, () -> x.restColumn(0, 2, 2));
    due("restColumn(0, 3, 0) of RANK 0", ARGUMENT, () -> x.restColumn(0, 3, 0));
    set(0, "1 0/0 1/0 0");
    due("restColumn(0, 0, 0) of as many COLUMNS as the RANK", ARGUMENT, () -> x.restColumn(0, 0, 0));
  }

  // ---- 6. Rests

  @Says(at = "6. Rests", words = "Of a square TABLE whose DETERMINANT is not 0")
  void restsOfSquareTablesWithADeterminant() {
    set(0, "1 1/1 2");
    due("rest(0, 0) of DETERMINANT 1", "0 0", () -> x.rest(0, 0));
    set(0, "1 1/1 0");
    due("rest(0, 0) of DETERMINANT -1", "0 0", () -> x.rest(0, 0));
    set(0, "1 1/1 1");
    due("rest(0, 0) of DETERMINANT 0", STATE, () -> x.rest(0, 0));
    set(0, "0");
    due("rest(0, 0) of 0", STATE, () -> x.rest(0, 0));
    set(0, "-1");
    due("rest(0, 0) of -1", "0", () -> x.rest(0, 0));
    set(0, "1 0 0/0 1 0");
    due("rest(0, 0) of more COLUMNS than ROWS", STATE, () -> x.rest(0, 0));
    x.flip(0);
    due("rest(0, 0) of more ROWS than COLUMNS", STATE, () -> x.rest(0, 0));
  }

  @Says(at = "6. Rests", words = "and whose ROW STEPS are not GREAT")
  void restsByTheRowSteps() {
    set(0, Tables.ROW_STEPS_W_1000000000);
    due("rest(0, 0)", "0 0 0 0", () -> x.rest(0, 0));
    due("restOf(0, 0, 3): a ROW of it leaves 0s", 0, () -> x.restOf(0, 0, 3));
    set(0, Tables.ROW_STEPS_W_1000000001);
    due("determinant(0, 0) is 0", false, () -> x.determinant(0, 0) == 0);
    due("rest(0, 0)", STATE, () -> x.rest(0, 0));
    due("restOf(0, 0, 3)", STATE, () -> x.restOf(0, 0, 3));
    // The STEPS of section 4 do not matter here.
    set(0, Tables.STEPS_L_1000000001);
    due("rest(0, 0) of GREAT STEPS", "0 0 0 0", () -> x.rest(0, 0));
  }

  @Says(at = "6. Rests", words = "for each COLUMN c from 0 on, with q = the number at c, as it is then, divided by H at c, c, rounded DOWN, q times the ROW c of H is taken off")
  void restsColumnByColumn() {
    // H is 2 1/0 3: of 2 1 nothing is left; of 2 0 there is 0 -1, and of that 0 2; of -1 0 there is 1 1.
    set(0, "2 1/0 3");
    set(1, "2 1/2 0/-1 0/1 3");
    due("restOf(0, 1, 0)", 0, () -> x.restOf(0, 1, 0));
    due("restOf(0, 1, 1)", 2, () -> x.restOf(0, 1, 1));
    due("restOf(0, 1, 2)", 4, () -> x.restOf(0, 1, 2));
    due("restOf(0, 1, 3)", 3, () -> x.restOf(0, 1, 3));
  }

  @Says(at = "6. Rests", words = "So a REST has 0 to H at c, c less 1 at each c, and each such row is one.")
  void eachSuchRowIsARest() {
    set(0, "2 0/0 3");
    set(1, "0 0/1 2/2 2/1 3");
    due("restOf(0, 1, 0): the first", 0, () -> x.restOf(0, 1, 0));
    due("restOf(0, 1, 1): the last", 5, () -> x.restOf(0, 1, 1));
    due("restOf(0, 1, 2): 2 is H there", 2, () -> x.restOf(0, 1, 2));
    due("restOf(0, 1, 3): 3 is H there", 3, () -> x.restOf(0, 1, 3));
    for (int n = 0; n < 6; n++) {
      int number = n;
      String[] parts = x.rest(0, n).split(" ");
      x.make(2, 1, 2);
      x.put(2, 0, 0, Integer.parseInt(parts[0]));
      x.put(2, 0, 1, Integer.parseInt(parts[1]));
      due("restOf() of rest(0, " + n + ")", number, () -> x.restOf(0, 2, 0));
    }
    due("rest(0, 6)", ARGUMENT, () -> x.rest(0, 6));
  }

  @Says(at = "6. Rests", words = "They are numbered from 0: that with 0s alone is 0")
  void restsAreNumberedFrom0() {
    set(0, "3 0/0 2");
    due("rest(0, 0)", "0 0", () -> x.rest(0, 0));
    due("rest(0, -1)", ARGUMENT, () -> x.rest(0, -1));
    due("restOf(0, 0, 0)", 0, () -> x.restOf(0, 0, 0));
  }

  @Says(at = "6. Rests", words = "from one to the next the last number becomes one more; where it would be H there, it becomes 0, and the one ahead of it one more, and so on")
  void fromOneRestToTheNext() {
    set(0, "2 0 0/0 3 0/0 0 2");
    String[] all = {"0 0 0", "0 0 1", "0 1 0", "0 1 1", "0 2 0", "0 2 1", "1 0 0", "1 0 1", "1 1 0", "1 1 1", "1 2 0",
        "1 2 1"};
    for (int n = 0; n < all.length; n++) {
      int number = n;
      due("rest(0, " + n + ")", all[n], () -> x.rest(0, number));
    }
    due("rest(0, 12)", ARGUMENT, () -> x.rest(0, 12));
  }

  @Says(at = "6. Rests", words = "At the desk one can knock, which is counted.")
  void knocksAreCounted() {
    due("house(2)", 0, () -> x.house(2));
    x.knock();
    due("house(2) behind a knock", 1, () -> x.house(2));
  }
}
