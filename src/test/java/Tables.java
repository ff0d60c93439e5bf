/** Tables found by a search, at which the greatest SIZE behind some change is just at the bound of what is GREAT. */
final class Tables {
  // ROW STEPS: the greatest SIZE in W is the one named; in C all are below 110000000.
  static final String ROW_STEPS_W_1000000000 = "10 -20 1 -14/8 11 6 17/-8 -1 11 19/15 -16 2 -20";
  static final String ROW_STEPS_W_1000000001 = "10 -20 1 -15/8 11 6 19/-8 -1 11 -18/15 -16 2 5";
  // The SIZE of its DETERMINANT: so no number of its STEPPED form is above that.
  static final int DIVISOR_OF_W_1000000001 = 40288;
  // The same with the signs of the last COLUMN turned.
  static final String ROW_STEPS_W_LESS_1000000000 = "10 -20 1 14/8 11 6 -17/-8 -1 11 -19/15 -16 2 20";
  static final String ROW_STEPS_W_LESS_1000000001 = "10 -20 1 15/8 11 6 -19/-8 -1 11 18/15 -16 2 -5";
  // ROW STEPS: the greatest SIZE in C is the one named; in W all are below 720000.
  static final String ROW_STEPS_C_1000000000 = "-19 -10 8/-14 3 2/10 -20 17/-2 7 17";
  static final String ROW_STEPS_C_1000000001 = "17 -4 8/10 16 5/-18 3 -9/-14 5 18";
  static final String ROW_STEPS_C_3999768750 = "8 -13 -20/19 20 14/15 -11 -9/2 17 -19";
  // STEPS: the greatest SIZE in L (in R) is the one named; in W and the other one all are smaller.
  static final String STEPS_L_1000000000 = "-17 6 -3 -19/3 5 6 -10/15 20 -11 -16/-2 17 -20 5";
  static final String STEPS_L_1000000001 = "-13 16 -10 6/-7 18 6 -19/-8 18 2 11/-14 19 12 -10";
  static final String STEPS_R_999999995 = "0 12 -2 -20/6 -6 20 7/-1 -9 16 18/14 20 19 16";
  static final String STEPS_R_1000000012 = "17 16 5 -19/3 10 8 -2/13 -14 6 1/-12 -20 -4 -17";
  static final String STEPS_R_1432300058 = "10 -20 1 -14/8 11 6 17/-8 -1 11 19/15 -16 2 -20";
  // GREAT by L, though it has three ROWS and three COLUMNS: here by a number above 0, in the one above by one below 0.
  static final String STEPS_GREAT_OF_3_ROWS = "13 19 -16/-8 -2 -11/-8 19 -6";
  // STEPS that are not GREAT: by the SOLUTION named, Y has a number of just that SIZE.
  static final String STEPS_Y_1000000000 = "-10 -14 -14 15/-3 17 18 -13/13 17 18 18/-19 -2 13 19";
  static final String SOLUTION_OF_Y_1000000000 = "1/-1/0/0";
  static final String STEPS_Y_1000000001 = "-16 -9 16 9/9 -7 0 -16/-4 -2 -7 -8/5 -16 -3 3";
  static final String SOLUTION_OF_Y_1000000001 = "0/1/0/-1";
  // What the ones do not tell, the others do, with LET NUMBERS alone.
  static final String ROW_STEPS_GREAT_BUT_NOT_STEPS = "-15 -18 7 9/-18 20 -4 2/16 -3 -14 4/-9 20 17 -16";
  static final String STEPS_GREAT_BUT_NOT_ROW_STEPS = "20 2 -18 0/-12 -16 2 20/-14 -20 -9 4/7 -14 -17 16";

  private Tables() {
  }
}
