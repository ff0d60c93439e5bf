/** Each promise by itself: ordinary inputs, the edges that the document names, and wrong inputs. */
public final class PromiseTest {
  private static final String INDEX = "throws.IndexOutOfBoundsException";
  private static final String ARGUMENT = "throws.IllegalArgumentException";
  private static final String STATE = "throws.IllegalStateException";
  private static final int LOW = Integer.MIN_VALUE;
  private static final int HIGH = Integer.MAX_VALUE;
  /** These leave the row steps great by a 4 x 4 table; at the end all numbers are small again. */
  private static final int SEED_OF_GREAT_ROW_STEPS = 38;
  /** By a 4 x 4 table the steps are great, the row steps are not. */
  private static final int SEED_OF_GREAT_STEPS = 1234;

  private final Checks checks = new Checks();
  private Gridmender x;

  public static void main(String[] args) {
    PromiseTest test = new PromiseTest();
    test.acts();
    test.asks();
    test.equations();
    test.whole();
    test.checks.end();
  }

  private void acts() {
    begin("promise 1");
    newObject();
    begin("promise 2");
    make();
    begin("promise 3");
    unit();
    begin("promise 4");
    put();
    begin("promise 5");
    sow();
    begin("promise 6");
    copy();
    begin("promise 7");
    swap();
    begin("promise 8");
    flip();
    begin("promise 9");
    exchange();
    begin("promise 10");
    turn();
    begin("promise 11");
    add();
    begin("promise 12");
    widen();
    begin("promise 13");
    drop();
    begin("promise 14");
    sum();
    begin("promise 15");
    multiply();
    begin("promise 16");
    take();
    begin("promise 17");
    solve();
  }

  private void asks() {
    begin("promise 18");
    shape();
    begin("promise 19");
    at();
    begin("promise 20");
    text();
    begin("promise 21");
    isSame();
    begin("promise 22");
    determinant();
    begin("promise 23");
    minor();
    begin("promise 24");
    divisor();
    begin("promise 25");
    rank();
    begin("promise 26");
    told();
    begin("promise 27");
    change();
  }

  private void equations() {
    begin("promise 28");
    isSolvable();
    begin("promise 29");
    restColumn();
    begin("promise 30");
    rest();
    begin("promise 31");
    restOf();
  }

  private void whole() {
    begin("promise 32");
    house();
    begin("promise 33");
    knock();
    begin("promise 34");
    isSound();
    begin("promise 35");
    digest();
    begin("what throws or is refused changes nothing");
    nothingChanges();
  }

  private void begin(String part) {
    checks.part(part);
    x = new Gridmender();
  }

  private void due(String call, Object want, Checks.Call got) {
    checks.due(call, want, got);
  }

  private void is(int table, String want) {
    due("text(" + table + ")", want, () -> x.text(table));
  }

  /** Rows with "/" between, numbers with " " between. */
  private void set(int table, String text) {
    String[] rows = text.split("/");
    x.make(table, rows.length, rows[0].split(" ").length);
    for (int i = 0; i < rows.length; i++) {
      String[] numbers = rows[i].split(" ");
      for (int j = 0; j < numbers.length; j++) {
        x.put(table, i, j, Integer.parseInt(numbers[j]));
      }
    }
  }

  private void sown(int table, int rows, int columns, int seed, int wide) {
    x.make(table, rows, columns);
    x.sow(table, seed, wide);
  }

  private void newObject() {
    for (int i = 0; i < 4; i++) {
      is(i, "0");
    }
    is(4, INDEX);
    due("house(0)", 0, () -> x.house(0));
    due("house(1)", 0, () -> x.house(1));
    due("house(2)", 0, () -> x.house(2));
    due("house(3)", 6, () -> x.house(3));
  }

  private void make() {
    due("make(0, 2, 3)", 0, () -> x.make(0, 2, 3));
    is(0, "0 0 0/0 0 0");
    set(0, "1 0/0 -2");
    due("make(0, 4, 4)", 2, () -> x.make(0, 4, 4));
    is(0, "0 0 0 0/0 0 0 0/0 0 0 0/0 0 0 0");
    due("make(3, 1, 4)", 0, () -> x.make(3, 1, 4));
    is(3, "0 0 0 0");
    due("make(-1, 1, 1)", INDEX, () -> x.make(-1, 1, 1));
    due("make(4, 0, 0)", INDEX, () -> x.make(4, 0, 0));
    due("make(0, 0, 1)", ARGUMENT, () -> x.make(0, 0, 1));
    due("make(0, 1, 0)", ARGUMENT, () -> x.make(0, 1, 0));
    due("make(0, 5, 1)", ARGUMENT, () -> x.make(0, 5, 1));
    due("make(0, 1, 5)", ARGUMENT, () -> x.make(0, 1, 5));
    due("make(LOW, HIGH, LOW)", INDEX, () -> x.make(LOW, HIGH, LOW));
    due("make(0, LOW, HIGH)", ARGUMENT, () -> x.make(0, LOW, HIGH));
  }

  private void unit() {
    due("unit(1, 4)", 0, () -> x.unit(1, 4));
    is(1, "1 0 0 0/0 1 0 0/0 0 1 0/0 0 0 1");
    due("unit(1, 1)", 4, () -> x.unit(1, 1));
    is(1, "1");
    set(1, "5 6 7/0 8 9");
    due("unit(1, 2)", 5, () -> x.unit(1, 2));
    is(1, "1 0/0 1");
    due("unit(1, 0)", ARGUMENT, () -> x.unit(1, 0));
    due("unit(1, 5)", ARGUMENT, () -> x.unit(1, 5));
    due("unit(4, 5)", INDEX, () -> x.unit(4, 5));
  }

  private void put() {
    x.make(0, 2, 3);
    due("put(0, 1, 2, 20)", 1, () -> x.put(0, 1, 2, 20));
    due("put(0, 1, 2, 20) again", 0, () -> x.put(0, 1, 2, 20));
    due("put(0, 0, 0, -20)", 1, () -> x.put(0, 0, 0, -20));
    due("put(0, 0, 1, 0)", 0, () -> x.put(0, 0, 1, 0));
    is(0, "-20 0 0/0 0 20");
    due("put(0, 0, 0, 21)", ARGUMENT, () -> x.put(0, 0, 0, 21));
    due("put(0, 0, 0, -21)", ARGUMENT, () -> x.put(0, 0, 0, -21));
    due("put(0, 2, 0, 21)", INDEX, () -> x.put(0, 2, 0, 21));
    due("put(0, 0, 3, 1)", INDEX, () -> x.put(0, 0, 3, 1));
    due("put(0, -1, 0, 1)", INDEX, () -> x.put(0, -1, 0, 1));
    due("put(0, 0, -1, 1)", INDEX, () -> x.put(0, 0, -1, 1));
    due("put(-1, 0, 0, 1)", INDEX, () -> x.put(-1, 0, 0, 1));
    due("put(0, HIGH, LOW, LOW)", INDEX, () -> x.put(0, HIGH, LOW, LOW));
    due("put(0, 0, 0, LOW)", ARGUMENT, () -> x.put(0, 0, 0, LOW));
    is(0, "-20 0 0/0 0 20");
  }

  private void sow() {
    // x is 13849, then 48742; by 64 that is 216 and 761, modulo 41 these are 11 and 23.
    x.make(0, 1, 2);
    due("sow(0, 0, 20)", 0, () -> x.sow(0, 0, 20));
    is(0, "-9 3");
    x.make(0, 2, 3);
    due("sow(0, 65535, 0)", 6, () -> x.sow(0, 65535, 0));
    is(0, "0 0 0/0 0 0");
    due("sow(0, 7, 20)", 1, () -> x.sow(0, 7, 20));
    is(0, "-1 2 -2/14 0 -6");
    sown(0, 3, 3, 11, 5);
    is(0, "2 5 -3/3 -5 -2/5 4 0");
    due("sow(0, -1, 1)", ARGUMENT, () -> x.sow(0, -1, 1));
    due("sow(0, 65536, 1)", ARGUMENT, () -> x.sow(0, 65536, 1));
    due("sow(0, 0, -1)", ARGUMENT, () -> x.sow(0, 0, -1));
    due("sow(0, 0, 21)", ARGUMENT, () -> x.sow(0, 0, 21));
    due("sow(4, -1, 21)", INDEX, () -> x.sow(4, -1, 21));
    is(0, "2 5 -3/3 -5 -2/5 4 0");
  }

  private void copy() {
    set(0, "1 2/3 4");
    due("copy(0, 1)", 1, () -> x.copy(0, 1));
    is(1, "1 2/3 4");
    due("copy(0, 1) again", 0, () -> x.copy(0, 1));
    due("copy(0, 0)", 0, () -> x.copy(0, 0));
    x.put(0, 0, 0, 9);
    is(1, "1 2/3 4");
    x.make(2, 1, 2);
    x.make(3, 2, 1);
    due("copy(2, 3)", 1, () -> x.copy(2, 3));
    is(3, "0 0");
    due("copy(0, 4)", INDEX, () -> x.copy(0, 4));
    due("copy(-1, 0)", INDEX, () -> x.copy(-1, 0));
  }

  private void swap() {
    set(0, "1 2/3 4");
    set(1, "5 6 7");
    due("swap(0, 1)", 1, () -> x.swap(0, 1));
    is(0, "5 6 7");
    is(1, "1 2/3 4");
    due("swap(2, 3)", 0, () -> x.swap(2, 3));
    due("swap(1, 1)", 0, () -> x.swap(1, 1));
    is(1, "1 2/3 4");
    due("swap(3, 4)", INDEX, () -> x.swap(3, 4));
    due("swap(-1, 0)", INDEX, () -> x.swap(-1, 0));
    x.put(0, 0, 0, 0);
    is(1, "1 2/3 4");
  }

  private void flip() {
    set(0, "1 2 3/4 5 6");
    due("flip(0)", 3, () -> x.flip(0));
    is(0, "1 4/2 5/3 6");
    due("flip(0) again", 2, () -> x.flip(0));
    is(0, "1 2 3/4 5 6");
    set(1, "1 2 3 4");
    due("flip(1)", 4, () -> x.flip(1));
    is(1, "1/2/3/4");
    due("flip(4)", INDEX, () -> x.flip(4));
    due("flip(-1)", INDEX, () -> x.flip(-1));
  }

  private void exchange() {
    set(0, "1 2 3/1 5 6");
    due("exchange(0, false, 0, 1)", 4, () -> x.exchange(0, false, 0, 1));
    is(0, "1 5 6/1 2 3");
    due("exchange(0, true, 0, 2)", 4, () -> x.exchange(0, true, 0, 2));
    is(0, "6 5 1/3 2 1");
    due("exchange(0, true, 1, 1)", 0, () -> x.exchange(0, true, 1, 1));
    due("exchange(0, false, 0, 2)", INDEX, () -> x.exchange(0, false, 0, 2));
    due("exchange(0, false, 2, 0)", INDEX, () -> x.exchange(0, false, 2, 0));
    due("exchange(0, true, 3, 0)", INDEX, () -> x.exchange(0, true, 3, 0));
    due("exchange(0, true, 0, -1)", INDEX, () -> x.exchange(0, true, 0, -1));
    due("exchange(4, true, 0, 0)", INDEX, () -> x.exchange(4, true, 0, 0));
    is(0, "6 5 1/3 2 1");
  }

  private void turn() {
    set(0, "1 -2 0/4 5 20");
    due("turn(0, false, 0)", 2, () -> x.turn(0, false, 0));
    is(0, "-1 2 0/4 5 20");
    due("turn(0, true, 2)", 1, () -> x.turn(0, true, 2));
    is(0, "-1 2 0/4 5 -20");
    x.make(1, 2, 2);
    due("turn(1, true, 1)", 0, () -> x.turn(1, true, 1));
    due("turn(0, false, 2)", INDEX, () -> x.turn(0, false, 2));
    due("turn(0, true, 3)", INDEX, () -> x.turn(0, true, 3));
    due("turn(0, true, -1)", INDEX, () -> x.turn(0, true, -1));
    due("turn(-1, true, 0)", INDEX, () -> x.turn(-1, true, 0));
  }

  private void add() {
    set(0, "1 2 0/4 5 6");
    due("add(0, false, 1, 0, -3)", 2, () -> x.add(0, false, 1, 0, -3));
    is(0, "1 2 0/1 -1 6");
    due("add(0, true, 2, 1, 2)", 2, () -> x.add(0, true, 2, 1, 2));
    is(0, "1 2 4/1 -1 4");
    due("add(0, true, 0, 1, 0)", 0, () -> x.add(0, true, 0, 1, 0));
    due("add(0, true, 0, 1, 20)", -9, () -> x.add(0, true, 0, 1, 20));
    due("add(0, true, 0, 1, -20)", -9, () -> x.add(0, true, 0, 1, -20));
    is(0, "1 2 4/1 -1 4");
    due("house(1)", 2, () -> x.house(1));
    due("add(0, true, 0, 1, 21)", ARGUMENT, () -> x.add(0, true, 0, 1, 21));
    due("add(0, true, 0, 1, -21)", ARGUMENT, () -> x.add(0, true, 0, 1, -21));
    due("add(0, false, 1, 1, 1)", ARGUMENT, () -> x.add(0, false, 1, 1, 1));
    due("add(0, false, 2, 2, 99)", INDEX, () -> x.add(0, false, 2, 2, 99));
    due("add(0, false, 0, 2, 1)", INDEX, () -> x.add(0, false, 0, 2, 1));
    due("add(0, true, 3, 0, 1)", INDEX, () -> x.add(0, true, 3, 0, 1));
    due("add(0, true, -1, 0, 1)", INDEX, () -> x.add(0, true, -1, 0, 1));
    due("add(4, true, 0, 1, 1)", INDEX, () -> x.add(4, true, 0, 1, 1));
    set(1, "0 1");
    due("add(1, true, 0, 1, 20)", 1, () -> x.add(1, true, 0, 1, 20));
    is(1, "20 1");
    due("add(1, true, 0, 1, 1)", -9, () -> x.add(1, true, 0, 1, 1));
    due("add(1, true, 0, 1, -20)", 1, () -> x.add(1, true, 0, 1, -20));
    is(1, "0 1");
  }

  private void widen() {
    set(0, "1 2/3 4");
    due("widen(0, false)", 3, () -> x.widen(0, false));
    is(0, "1 2/3 4/0 0");
    due("widen(0, true)", 3, () -> x.widen(0, true));
    is(0, "1 2 0/3 4 0/0 0 0");
    due("widen(0, true) again", 4, () -> x.widen(0, true));
    due("widen(0, true) of 4", -9, () -> x.widen(0, true));
    is(0, "1 2 0 0/3 4 0 0/0 0 0 0");
    due("widen(0, false) again", 4, () -> x.widen(0, false));
    due("widen(0, false) of 4", -9, () -> x.widen(0, false));
    due("house(1)", 2, () -> x.house(1));
    due("widen(4, false)", INDEX, () -> x.widen(4, false));
    set(1, "1 2/3 4");
    x.drop(1, false, 1);
    due("widen(1, false)", 2, () -> x.widen(1, false));
    is(1, "1 2/0 0");
  }

  private void drop() {
    set(0, "1 2 3/4 5 6/7 8 9");
    due("drop(0, false, 0)", 2, () -> x.drop(0, false, 0));
    is(0, "4 5 6/7 8 9");
    due("drop(0, true, 1)", 2, () -> x.drop(0, true, 1));
    is(0, "4 6/7 9");
    due("drop(0, false, 1)", 1, () -> x.drop(0, false, 1));
    is(0, "4 6");
    due("drop(0, false, 0) of 1", -9, () -> x.drop(0, false, 0));
    due("drop(0, false, 1) of 1", INDEX, () -> x.drop(0, false, 1));
    due("drop(0, true, 2)", INDEX, () -> x.drop(0, true, 2));
    due("drop(0, true, -1)", INDEX, () -> x.drop(0, true, -1));
    due("drop(4, true, 0)", INDEX, () -> x.drop(4, true, 0));
    due("drop(0, true, 1)", 1, () -> x.drop(0, true, 1));
    due("drop(0, true, 0) of 1", -9, () -> x.drop(0, true, 0));
    is(0, "4");
    due("house(1)", 2, () -> x.house(1));
  }

  private void sum() {
    set(0, "1 2/3 20");
    set(1, "-1 2/0 0");
    due("sum(0, 1, false, 2)", 3, () -> x.sum(0, 1, false, 2));
    is(2, "0 4/3 20");
    due("sum(0, 1, true, 2)", 3, () -> x.sum(0, 1, true, 2));
    is(2, "2 0/3 20");
    due("sum(0, 0, true, 0)", 0, () -> x.sum(0, 0, true, 0));
    is(0, "0 0/0 0");
    set(0, "20 0/0 0");
    set(1, "1 0/0 0");
    due("sum(0, 1, false, 0) too great", -9, () -> x.sum(0, 1, false, 0));
    set(1, "-20 0/0 0");
    due("sum(1, 0, true, 0) too small", -9, () -> x.sum(1, 0, true, 0));
    set(1, "0 0 0/0 0 0");
    due("sum of unlike columns", -9, () -> x.sum(0, 1, false, 2));
    x.flip(1);
    due("sum of unlike rows", -9, () -> x.sum(0, 1, false, 2));
    is(0, "20 0/0 0");
    is(2, "2 0/3 20");
    due("sum(4, 0, false, 0)", INDEX, () -> x.sum(4, 0, false, 0));
    due("sum(0, 4, false, 0)", INDEX, () -> x.sum(0, 4, false, 0));
    due("sum(0, 1, false, 4)", INDEX, () -> x.sum(0, 1, false, 4));
    due("house(1)", 4, () -> x.house(1));
  }

  private void multiply() {
    set(0, "1 2 0/-1 0 3");
    set(1, "1 0/2 1/0 4");
    due("multiply(0, 1, 2)", 4, () -> x.multiply(0, 1, 2));
    is(2, "5 2/-1 12");
    due("multiply(1, 0, 3)", 7, () -> x.multiply(1, 0, 3));
    is(3, "1 2 0/1 4 3/-4 0 12");
    set(3, "0 1/1 0");
    due("multiply(2, 3, 2)", 4, () -> x.multiply(2, 3, 2));
    is(2, "2 5/12 -1");
    due("multiply(3, 2, 3)", 4, () -> x.multiply(3, 2, 3));
    is(3, "12 -1/2 5");
    due("multiply(0, 0, 2)", -9, () -> x.multiply(0, 0, 2));
    due("multiply(2, 2, 2) too great", -9, () -> x.multiply(2, 2, 2));
    is(2, "2 5/12 -1");
    due("multiply(0, 0, 4)", INDEX, () -> x.multiply(0, 0, 4));
    due("multiply(-1, 0, 0)", INDEX, () -> x.multiply(-1, 0, 0));
    due("multiply(0, -1, 0)", INDEX, () -> x.multiply(0, -1, 0));
    due("house(1)", 2, () -> x.house(1));
  }

  private void take() {
    // 0 6/4 0: the ROWS are exchanged. By STEPS: 4 and 6 come to the diagonal, 6 is no whole multiple of 4.
    set(0, "0 6/4 0");
    due("take(0, 0, 1)", 2, () -> x.take(0, 0, 1));
    is(1, "4 0/0 6");
    due("take(0, 1, 1)", 2, () -> x.take(0, 1, 1));
    is(1, "0 1/1 0");
    due("take(0, 2, 1)", 2, () -> x.take(0, 2, 1));
    is(1, "2 0/0 12");
    x.take(0, 3, 1);
    x.take(0, 4, 2);
    x.multiply(1, 0, 3);
    x.multiply(3, 2, 3);
    is(3, "2 0/0 12");
    set(1, "3 5 7");
    due("take(1, 4, 2)", 7, () -> x.take(1, 4, 2));
    is(2, "-2 3 7/0 1 0/1 -2 -3");
    due("take(1, 2, 1) into itself", 1, () -> x.take(1, 2, 1));
    is(1, "1 0 0");
    set(3, "5 3/2 5");
    due("take(3, 0, 3)", 3, () -> x.take(3, 0, 3));
    is(3, "1 12/0 19");
    set(3, "5 3/2 9");
    due("take(3, 0, 2): 39 is not let", -9, () -> x.take(3, 0, 2));
    is(2, "-2 3 7/0 1 0/1 -2 -3");
    sown(3, 4, 4, SEED_OF_GREAT_STEPS, 20);
    due("take(3, 2, 2): great", -9, () -> x.take(3, 2, 2));
    due("take(0, 5, 1)", ARGUMENT, () -> x.take(0, 5, 1));
    due("take(0, -1, 1)", ARGUMENT, () -> x.take(0, -1, 1));
    due("take(0, 5, 4)", INDEX, () -> x.take(0, 5, 4));
    due("take(4, 5, 0)", INDEX, () -> x.take(4, 5, 0));
    due("house(1)", 2, () -> x.house(1));
  }

  private void solve() {
    set(0, "2 4 4/-6 6 12");
    set(1, "2 1/6 0");
    due("solve(0, 1, 0, 2)", 3, () -> x.solve(0, 1, 0, 2));
    is(2, "1/-2/2");
    due("solve(0, 1, 1, 2): there is none", -9, () -> x.solve(0, 1, 1, 2));
    set(3, "0/0/0");
    due("solve(0, 3, 0, 2): unlike rows", -9, () -> x.solve(0, 3, 0, 2));
    set(3, "1/1");
    set(2, "0 0/0 3");
    due("solve(2, 3, 0, 2): not 0 behind the rank", -9, () -> x.solve(2, 3, 0, 2));
    set(3, "0/6");
    due("solve(2, 3, 0, 3)", 1, () -> x.solve(2, 3, 0, 3));
    is(3, "0/2");
    set(0, "1 3/0 1");
    set(3, "0/7");
    due("solve(0, 3, 0, 3): -21 is not let", -9, () -> x.solve(0, 3, 0, 3));
    is(3, "0/7");
    solveGreat();
    due("solve(0, 3, 1, 3)", INDEX, () -> x.solve(0, 3, 1, 3));
    due("solve(0, 3, -1, 3)", INDEX, () -> x.solve(0, 3, -1, 3));
    due("solve(0, 3, 0, 4)", INDEX, () -> x.solve(0, 3, 0, 4));
    due("solve(0, 4, 0, 3)", INDEX, () -> x.solve(0, 4, 0, 3));
    due("solve(-1, 3, 0, 3)", INDEX, () -> x.solve(-1, 3, 0, 3));
    due("house(1)", 6, () -> x.house(1));
  }

  /** The solution is 0, 1, 1, 0, but Y has the number -6142358256; and then one by great steps. */
  private void solveGreat() {
    sown(0, 4, 4, 220, 13);
    set(3, "-15/18/-5/16");
    set(1, "0/1/1/0");
    due("multiply(0, 1, 2)", 4, () -> x.multiply(0, 1, 2));
    due("isSame(2, 3)", true, () -> x.isSame(2, 3));
    due("isSolvable(0, 3, 0, 0)", true, () -> x.isSolvable(0, 3, 0, 0));
    x.make(1, 1, 1);
    due("solve(1, 1, 0, 1)", 0, () -> x.solve(1, 1, 0, 1));
    due("solve(0, 3, 0, 3): great", -9, () -> x.solve(0, 3, 0, 3));
    sown(0, 4, 4, SEED_OF_GREAT_STEPS, 20);
    set(3, "0/0/0/0");
    due("solve(0, 3, 0, 3): great steps", -9, () -> x.solve(0, 3, 0, 3));
  }

  private void shape() {
    x.make(0, 2, 3);
    due("shape(0, false)", 2, () -> x.shape(0, false));
    due("shape(0, true)", 3, () -> x.shape(0, true));
    due("shape(3, true)", 1, () -> x.shape(3, true));
    due("shape(4, true)", INDEX, () -> x.shape(4, true));
    due("shape(-1, false)", INDEX, () -> x.shape(-1, false));
  }

  private void at() {
    set(0, "1 2 3/4 5 -6");
    due("at(0, 1, 2)", -6, () -> x.at(0, 1, 2));
    due("at(0, 0, 1)", 2, () -> x.at(0, 0, 1));
    due("at(0, 2, 0)", INDEX, () -> x.at(0, 2, 0));
    due("at(0, 0, 3)", INDEX, () -> x.at(0, 0, 3));
    due("at(0, -1, 0)", INDEX, () -> x.at(0, -1, 0));
    due("at(0, 0, -1)", INDEX, () -> x.at(0, 0, -1));
    due("at(4, 0, 0)", INDEX, () -> x.at(4, 0, 0));
    due("at(0, LOW, HIGH)", INDEX, () -> x.at(0, LOW, HIGH));
  }

  private void text() {
    is(0, "0");
    set(0, "1 -2 3 20");
    is(0, "1 -2 3 20");
    x.flip(0);
    is(0, "1/-2/3/20");
    set(0, "1 2/-3 -4");
    is(0, "1 2/-3 -4");
    is(-1, INDEX);
    is(4, INDEX);
  }

  private void isSame() {
    due("isSame(0, 3)", true, () -> x.isSame(0, 3));
    x.make(0, 1, 2);
    due("isSame(0, 3) by columns", false, () -> x.isSame(0, 3));
    x.make(3, 2, 1);
    due("isSame(0, 3) by rows", false, () -> x.isSame(0, 3));
    x.copy(0, 3);
    due("isSame(3, 0)", true, () -> x.isSame(3, 0));
    x.put(3, 0, 1, 1);
    due("isSame(3, 0) by a number", false, () -> x.isSame(3, 0));
    due("isSame(3, 3)", true, () -> x.isSame(3, 3));
    due("isSame(0, 4)", INDEX, () -> x.isSame(0, 4));
    due("isSame(-1, 0)", INDEX, () -> x.isSame(-1, 0));
  }

  private void determinants(String text, int want) {
    set(0, text);
    for (int how = 0; how <= 2; how++) {
      int by = how;
      due("determinant(0, " + how + ") of " + text, want, () -> x.determinant(0, by));
    }
  }

  private void determinant() {
    determinants("-7", -7);
    determinants("1 2/3 4", -2);
    determinants("2 0 1/1 3 2/1 1 4", 18);
    determinants("0 1 0/0 0 1/1 0 0", 1);
    determinants("0 0 0 1/1 0 0 0/0 1 0 0/0 0 1 0", -1);
    determinants("1 2 3 4/2 3 4 5/3 4 5 6/4 5 6 7", 0);
    // The greatest that a 4 x 4 table has: 16 by 20^4.
    determinants("20 20 20 20/20 -20 20 -20/20 20 -20 -20/20 -20 -20 20", 2560000);
    x.make(0, 2, 3);
    for (int how = 0; how <= 2; how++) {
      int by = how;
      due("determinant(0, " + how + ") of 2 x 3", STATE, () -> x.determinant(0, by));
    }
    due("determinant(0, 3)", ARGUMENT, () -> x.determinant(0, 3));
    due("determinant(0, -1)", ARGUMENT, () -> x.determinant(0, -1));
    due("determinant(4, 3)", INDEX, () -> x.determinant(4, 3));
    sown(0, 4, 4, SEED_OF_GREAT_ROW_STEPS, 20);
    due("determinant(0, 2) of great row steps", STATE, () -> x.determinant(0, 2));
    due("determinant(0, 0) less determinant(0, 1)", 0, () -> x.determinant(0, 0) - x.determinant(0, 1));
  }

  private void minor() {
    set(0, "2 5 -3/3 -5 -2/5 4 0");
    due("minor(0, 7, 7)", -145, () -> x.minor(0, 7, 7));
    due("minor(0, 3, 5)", 5, () -> x.minor(0, 3, 5));
    due("minor(0, 1, 4)", -3, () -> x.minor(0, 1, 4));
    due("minor(0, 4, 2)", 4, () -> x.minor(0, 4, 2));
    due("minor(0, 2, 1)", 3, () -> x.minor(0, 2, 1));
    due("minor(0, 6, 3)", 37, () -> x.minor(0, 6, 3));
    due("minor(0, 3, 1)", ARGUMENT, () -> x.minor(0, 3, 1));
    due("minor(0, 0, 0)", ARGUMENT, () -> x.minor(0, 0, 0));
    due("minor(0, 0, 1)", ARGUMENT, () -> x.minor(0, 0, 1));
    due("minor(0, 8, 1)", ARGUMENT, () -> x.minor(0, 8, 1));
    due("minor(0, 1, 8)", ARGUMENT, () -> x.minor(0, 1, 8));
    due("minor(0, 9, 3)", ARGUMENT, () -> x.minor(0, 9, 3));
    due("minor(0, -1, -1)", ARGUMENT, () -> x.minor(0, -1, -1));
    due("minor(0, LOW, 1)", ARGUMENT, () -> x.minor(0, LOW, 1));
    due("minor(4, 0, 0)", INDEX, () -> x.minor(4, 0, 0));
    set(0, "1 2 3 4/0 0 0 5");
    due("minor(0, 3, 9)", 5, () -> x.minor(0, 3, 9));
    due("minor(0, 4, 8)", ARGUMENT, () -> x.minor(0, 4, 8));
    due("minor(0, 2, 8)", 5, () -> x.minor(0, 2, 8));
  }

  private void divisor() {
    set(0, "0 6/4 0");
    due("divisor(0, 0)", 1, () -> x.divisor(0, 0));
    due("divisor(0, 1)", 2, () -> x.divisor(0, 1));
    due("divisor(0, 2)", 24, () -> x.divisor(0, 2));
    due("divisor(0, 3)", ARGUMENT, () -> x.divisor(0, 3));
    due("divisor(0, -1)", ARGUMENT, () -> x.divisor(0, -1));
    due("divisor(4, -1)", INDEX, () -> x.divisor(4, -1));
    set(0, "2 4 4/-6 6 12");
    due("divisor(0, 2) of 2 x 3", 12, () -> x.divisor(0, 2));
    due("divisor(0, 3) of 2 x 3", ARGUMENT, () -> x.divisor(0, 3));
    set(0, "-3 -6/-6 -12");
    due("divisor(0, 1) of less than 0", 3, () -> x.divisor(0, 1));
    due("divisor(0, 2) of no rank", 0, () -> x.divisor(0, 2));
    x.make(0, 3, 3);
    due("divisor(0, 0) of 0s", 1, () -> x.divisor(0, 0));
    due("divisor(0, 1) of 0s", 0, () -> x.divisor(0, 1));
  }

  private void ranks(String text, int want) {
    set(0, text);
    due("rank(0, 0) of " + text, want, () -> x.rank(0, 0));
    due("rank(0, 1) of " + text, want, () -> x.rank(0, 1));
  }

  private void rank() {
    ranks("0", 0);
    ranks("0 0 0/0 0 0", 0);
    ranks("0 0 5", 1);
    ranks("0/0/-3", 1);
    ranks("1 2 3 4/2 3 4 5/3 4 5 6/4 5 6 7", 2);
    ranks("1 2/2 4/3 6/4 9", 2);
    ranks("2 0 1/1 3 2/1 1 4", 3);
    ranks("0 1 0 0/0 0 0 2/0 0 3 0/4 0 0 0", 4);
    due("rank(0, 2)", ARGUMENT, () -> x.rank(0, 2));
    due("rank(0, -1)", ARGUMENT, () -> x.rank(0, -1));
    due("rank(4, 2)", INDEX, () -> x.rank(4, 2));
    sown(0, 4, 4, SEED_OF_GREAT_ROW_STEPS, 20);
    due("rank(0, 0) of great row steps", 4, () -> x.rank(0, 0));
    due("rank(0, 1) of great row steps", STATE, () -> x.rank(0, 1));
    sown(0, 4, 4, SEED_OF_GREAT_STEPS, 20);
    due("rank(0, 1) of great steps", 4, () -> x.rank(0, 1));
  }

  private void form(int what, String want) {
    String[] rows = want.split("/");
    for (int i = 0; i < rows.length; i++) {
      String[] numbers = rows[i].split(" ");
      for (int j = 0; j < numbers.length; j++) {
        int row = i;
        int column = j;
        due("told(0, " + what + ", " + i + ", " + j + ") of " + x.text(0), numbers[j],
            () -> x.told(0, what, row, column));
      }
    }
  }

  private void told() {
    set(0, "5 3/2 9");
    form(0, "1 24/0 39");
    form(1, "-1 3/-2 5");
    form(2, "1 0/0 39");
    // Of several of the least size that in the smallest row; below 0 the signs turn; the quotient goes down.
    set(0, "3 1/-2 1/2 0");
    form(0, "1 0/0 1/0 0");
    form(1, "1 -1 -2/0 1 1/-2 2 5");
    set(0, "1/1");
    form(1, "1 0/-1 1");
    set(0, "0 2/2 0");
    form(3, "1 0/0 1");
    form(4, "0 1/1 0");
    // 0s ahead: the columns without a number are left out.
    set(0, "0 0 2 7/0 0 0 3");
    form(0, "0 0 2 1/0 0 0 3");
    form(1, "1 -2/0 1");
    form(2, "1 0 0 0/0 6 0 0");
    set(0, "3 5 7");
    form(2, "1 0 0");
    form(3, "1");
    form(4, "-2 3 7/0 1 0/1 -2 -3");
    x.flip(0);
    form(2, "1/0/0");
    form(4, "1");
    toldWrong();
  }

  private void toldWrong() {
    x.make(0, 2, 3);
    due("told(0, 0, 2, 0)", ARGUMENT, () -> x.told(0, 0, 2, 0));
    due("told(0, 0, 1, 3)", ARGUMENT, () -> x.told(0, 0, 1, 3));
    due("told(0, 1, 0, 2)", ARGUMENT, () -> x.told(0, 1, 0, 2));
    due("told(0, 3, 2, 0)", ARGUMENT, () -> x.told(0, 3, 2, 0));
    due("told(0, 4, 2, 2)", 1, () -> x.told(0, 4, 2, 2));
    due("told(0, 4, 3, 0)", ARGUMENT, () -> x.told(0, 4, 3, 0));
    due("told(0, 2, -1, 0)", ARGUMENT, () -> x.told(0, 2, -1, 0));
    due("told(0, 2, 0, -1)", ARGUMENT, () -> x.told(0, 2, 0, -1));
    due("told(0, 5, 0, 0)", ARGUMENT, () -> x.told(0, 5, 0, 0));
    due("told(0, -1, 0, 0)", ARGUMENT, () -> x.told(0, -1, 0, 0));
    due("told(4, 5, 0, 0)", INDEX, () -> x.told(4, 5, 0, 0));
    sown(0, 4, 4, SEED_OF_GREAT_STEPS, 20);
    due("told(0, 0, 3, 3) of great steps", 64239, () -> x.told(0, 0, 3, 3));
    due("told(0, 2, 3, 3) of great steps", STATE, () -> x.told(0, 2, 3, 3));
    due("told(0, 4, 4, 0) of great steps", ARGUMENT, () -> x.told(0, 4, 4, 0));
    sown(0, 4, 4, SEED_OF_GREAT_ROW_STEPS, 20);
    due("told(0, 0, 0, 0) of great row steps", STATE, () -> x.told(0, 0, 0, 0));
    due("told(0, 1, 0, 0) of great row steps", STATE, () -> x.told(0, 1, 0, 0));
  }

  private void change() {
    set(0, "0 6/4 0");
    due("change(0, 0)", 0, () -> x.change(0, 0));
    due("change(0, 1)", 0, () -> x.change(0, 1));
    due("change(0, 2)", -1, () -> x.change(0, 2));
    due("change(0, 3) by change(0, 4)", -1, () -> x.change(0, 3) * x.change(0, 4));
    set(0, "0 5");
    due("change(0, 3) of 0 5", 1, () -> x.change(0, 3));
    due("change(0, 4) of 0 5", -1, () -> x.change(0, 4));
    set(0, "-5");
    due("change(0, 2) of -5", -1, () -> x.change(0, 2));
    due("change(0, 3) of -5", -1, () -> x.change(0, 3));
    due("change(0, 4) of -5", 1, () -> x.change(0, 4));
    due("change(0, 5)", ARGUMENT, () -> x.change(0, 5));
    due("change(0, -1)", ARGUMENT, () -> x.change(0, -1));
    due("change(4, 5)", INDEX, () -> x.change(4, 5));
    sown(0, 4, 4, SEED_OF_GREAT_STEPS, 20);
    due("change(0, 0) of great steps", 0, () -> x.change(0, 0));
    due("change(0, 1) of great steps", 1, () -> x.change(0, 1));
    due("change(0, 2) of great steps", 1, () -> Math.abs(x.change(0, 2)));
    due("change(0, 3) of great steps", STATE, () -> x.change(0, 3));
    due("change(0, 4) of great steps", STATE, () -> x.change(0, 4));
    sown(0, 4, 4, SEED_OF_GREAT_ROW_STEPS, 20);
    due("change(0, 0) of great row steps", 1, () -> x.change(0, 0));
    due("change(0, 2) of great row steps", STATE, () -> x.change(0, 2));
  }

  private void solvable(int column, boolean want) {
    due("isSolvable(0, 1, " + column + ", 0)", want, () -> x.isSolvable(0, 1, column, 0));
    due("isSolvable(0, 1, " + column + ", 1)", want, () -> x.isSolvable(0, 1, column, 1));
  }

  private void isSolvable() {
    set(0, "2 4 4/-6 6 12");
    set(1, "2 1/6 0");
    solvable(0, true);
    solvable(1, false);
    set(0, "1 2/2 4");
    set(1, "1 1 0/2 3 0");
    solvable(0, true);
    solvable(1, false);
    solvable(2, true);
    set(0, "0 0/0 0");
    solvable(2, true);
    solvable(0, false);
    set(0, "2 0 0 0/0 2 0 0/0 0 2 0/0 0 0 2");
    set(1, "2 2/4 4/6 6/8 9");
    solvable(0, true);
    solvable(1, false);
    due("isSolvable(0, 1, 2, 0)", INDEX, () -> x.isSolvable(0, 1, 2, 0));
    due("isSolvable(0, 1, -1, 2)", INDEX, () -> x.isSolvable(0, 1, -1, 2));
    due("isSolvable(0, 4, 0, 0)", INDEX, () -> x.isSolvable(0, 4, 0, 0));
    due("isSolvable(4, 0, 0, 0)", INDEX, () -> x.isSolvable(4, 0, 0, 0));
    due("isSolvable(0, 1, 0, 2)", ARGUMENT, () -> x.isSolvable(0, 1, 0, 2));
    due("isSolvable(0, 1, 0, -1)", ARGUMENT, () -> x.isSolvable(0, 1, 0, -1));
    due("isSolvable(0, 2, 0, 0)", ARGUMENT, () -> x.isSolvable(0, 2, 0, 0));
    due("isSolvable(0, 2, 0, 1)", ARGUMENT, () -> x.isSolvable(0, 2, 0, 1));
    sown(0, 4, 4, SEED_OF_GREAT_STEPS, 20);
    set(1, "0/0/0/0");
    due("isSolvable(0, 1, 0, 0) of great steps", STATE, () -> x.isSolvable(0, 1, 0, 0));
    due("isSolvable(0, 1, 0, 1) of great steps", true, () -> x.isSolvable(0, 1, 0, 1));
    due("isSolvable(0, 1, 0, 2) of great steps", ARGUMENT, () -> x.isSolvable(0, 1, 0, 2));
  }

  private void restColumn() {
    set(0, "2 4 4/-6 6 12");
    due("restColumn(0, 0, 0)", -2, () -> x.restColumn(0, 0, 0));
    due("restColumn(0, 0, 1)", 4, () -> x.restColumn(0, 0, 1));
    due("restColumn(0, 0, 2)", -3, () -> x.restColumn(0, 0, 2));
    due("restColumn(0, 1, 0)", ARGUMENT, () -> x.restColumn(0, 1, 0));
    due("restColumn(0, -1, 0)", ARGUMENT, () -> x.restColumn(0, -1, 0));
    due("restColumn(0, 0, 3)", ARGUMENT, () -> x.restColumn(0, 0, 3));
    due("restColumn(0, 0, -1)", ARGUMENT, () -> x.restColumn(0, 0, -1));
    due("restColumn(0, HIGH, 0)", ARGUMENT, () -> x.restColumn(0, HIGH, 0));
    due("restColumn(4, 0, 0)", INDEX, () -> x.restColumn(4, 0, 0));
    set(0, "3 5 7");
    due("restColumn(0, 0, 2) of 3 5 7", -2, () -> x.restColumn(0, 0, 2));
    due("restColumn(0, 1, 0) of 3 5 7", 7, () -> x.restColumn(0, 1, 0));
    set(0, "1 0/0 1");
    due("restColumn(0, 0, 0) of full rank", ARGUMENT, () -> x.restColumn(0, 0, 0));
    x.make(0, 1, 3);
    due("restColumn(0, 2, 2) of 0s", 1, () -> x.restColumn(0, 2, 2));
    sown(0, 4, 4, SEED_OF_GREAT_STEPS, 20);
    due("restColumn(0, 9, 9) of great steps", STATE, () -> x.restColumn(0, 9, 9));
  }

  private void rest() {
    set(0, "2 0/0 3");
    String[] all = {"0 0", "0 1", "0 2", "1 0", "1 1", "1 2"};
    for (int n = 0; n < all.length; n++) {
      int number = n;
      due("rest(0, " + n + ")", all[n], () -> x.rest(0, number));
    }
    due("rest(0, 6)", ARGUMENT, () -> x.rest(0, 6));
    due("rest(0, -1)", ARGUMENT, () -> x.rest(0, -1));
    due("rest(0, LOW)", ARGUMENT, () -> x.rest(0, LOW));
    due("rest(0, HIGH)", ARGUMENT, () -> x.rest(0, HIGH));
    due("rest(4, -1)", INDEX, () -> x.rest(4, -1));
    set(0, "-1");
    due("rest(0, 0) of -1", "0", () -> x.rest(0, 0));
    due("rest(0, 1) of -1", ARGUMENT, () -> x.rest(0, 1));
    set(0, "5 3/2 9");
    due("rest(0, 38)", "0 38", () -> x.rest(0, 38));
    due("rest(0, 39)", ARGUMENT, () -> x.rest(0, 39));
    set(0, "1 2/2 4");
    due("rest(0, -1) of determinant 0", STATE, () -> x.rest(0, -1));
    x.make(0, 1, 2);
    due("rest(0, 0) of 1 x 2", STATE, () -> x.rest(0, 0));
    sown(0, 4, 4, SEED_OF_GREAT_ROW_STEPS, 20);
    due("rest(0, 0) of great row steps", STATE, () -> x.rest(0, 0));
    sown(0, 4, 4, SEED_OF_GREAT_STEPS, 20);
    due("rest(0, 64238)", "0 0 0 64238", () -> x.rest(0, 64238));
    due("rest(0, 64239)", ARGUMENT, () -> x.rest(0, 64239));
  }

  private void restOf() {
    set(0, "2 0/0 3");
    set(1, "7 -1/-1 0/1 5/4 -6");
    due("restOf(0, 1, 0)", 5, () -> x.restOf(0, 1, 0));
    due("restOf(0, 1, 1)", 3, () -> x.restOf(0, 1, 1));
    due("restOf(0, 1, 2)", 5, () -> x.restOf(0, 1, 2));
    due("restOf(0, 1, 3)", 0, () -> x.restOf(0, 1, 3));
    due("restOf(0, 1, 4)", INDEX, () -> x.restOf(0, 1, 4));
    due("restOf(0, 1, -1)", INDEX, () -> x.restOf(0, 1, -1));
    due("restOf(0, 4, 0)", INDEX, () -> x.restOf(0, 4, 0));
    due("restOf(4, 0, 0)", INDEX, () -> x.restOf(4, 0, 0));
    due("restOf(0, 2, 0)", ARGUMENT, () -> x.restOf(0, 2, 0));
    due("restOf(1, 2, 0): none left goes ahead", STATE, () -> x.restOf(1, 2, 0));
    due("restOf(1, 2, 1): no row goes ahead", INDEX, () -> x.restOf(1, 2, 1));
    // H is 1 24/0 39: -3 5 has -3 times the row 0 taken off, so 0 77, then 0 38.
    set(0, "5 3/2 9");
    set(1, "-3 5/5 3/0 1");
    due("restOf(0, 1, 0) by H", 38, () -> x.restOf(0, 1, 0));
    due("restOf(0, 1, 1) by H", 0, () -> x.restOf(0, 1, 1));
    due("restOf(0, 1, 2) by H", 1, () -> x.restOf(0, 1, 2));
    set(0, "1 2/2 4");
    due("restOf(0, 1, 0) of determinant 0", STATE, () -> x.restOf(0, 1, 0));
    sown(0, 4, 4, SEED_OF_GREAT_ROW_STEPS, 20);
    due("restOf(0, 1, 0) of great row steps", STATE, () -> x.restOf(0, 1, 0));
  }

  private void house() {
    x.make(0, 2, 2);
    x.copy(0, 0);
    x.add(0, false, 0, 1, 0);
    due("house(0)", 3, () -> x.house(0));
    due("house(3)", 3, () -> x.house(3));
    x.multiply(0, 1, 2);
    x.knock();
    x.knock();
    x.text(0);
    x.determinant(0, 2);
    due("put(0, 9, 9, 9)", INDEX, () -> x.put(0, 9, 9, 9));
    due("house(0)", 3, () -> x.house(0));
    due("house(1)", 1, () -> x.house(1));
    due("house(2)", 2, () -> x.house(2));
    x.copy(0, 1);
    due("house(3) of two and two", 2, () -> x.house(3));
    x.put(1, 0, 0, 1);
    due("house(3) of two", 1, () -> x.house(3));
    x.make(2, 3, 3);
    due("house(3) of none", 0, () -> x.house(3));
    due("house(4)", ARGUMENT, () -> x.house(4));
    due("house(-1)", ARGUMENT, () -> x.house(-1));
    allActsCount();
  }

  private void allActsCount() {
    x = new Gridmender();
    x.make(0, 2, 2);
    x.unit(0, 2);
    x.put(0, 0, 0, 1);
    x.sow(0, 1, 1);
    x.copy(0, 1);
    x.swap(0, 1);
    x.flip(0);
    x.exchange(0, false, 0, 1);
    x.turn(0, false, 0);
    x.add(0, false, 0, 1, 1);
    x.widen(0, false);
    x.drop(0, false, 0);
    x.sum(0, 0, true, 0);
    x.multiply(0, 0, 0);
    x.take(0, 0, 1);
    x.solve(0, 0, 0, 1);
    due("house(0) of each act once", 16, () -> x.house(0));
    due("house(1) of each act once", 0, () -> x.house(1));
  }

  private void knock() {
    due("knock()", 1, () -> x.knock());
    due("knock() again", 2, () -> x.knock());
    due("house(2)", 2, () -> x.house(2));
    due("house(0)", 0, () -> x.house(0));
  }

  private void isSound() {
    due("isSound()", true, () -> x.isSound());
    for (int i = 0; i < 200; i++) {
      x = new Gridmender();
      int rows = 1 + i % 4;
      int columns = 1 + i / 4 % 4;
      sown(0, rows, columns, i * 327, i % 21);
      due("isSound() of " + x.text(0), true, () -> x.isSound());
    }
  }

  private void digest() {
    long d = 8032;
    int[] first = {1, 1, 0, 1, 1, 0, 1, 1, 0, 1, 1, 0, 0, 0, 0, 6, 1};
    for (int v : first) {
      d = d * 31 + v;
    }
    long atFirst = d;
    due("digest()", atFirst, () -> x.digest());
    set(1, "1 -2/3 4");
    x.knock();
    x.drop(0, true, 0);
    d = 8032;
    int[] then = {1, 1, 0, 2, 2, 1, -2, 3, 4, 1, 1, 0, 1, 1, 0, 5, 1, 1, 3, 1};
    for (int v : then) {
      d = d * 31 + v;
    }
    long later = d;
    due("digest() later", later, () -> x.digest());
    due("digest() asks, and does nothing", later, () -> x.digest());
  }

  private void nothingChanges() {
    set(0, "20 1/1 20");
    set(1, "1 2 3");
    long before = x.digest();
    due("make", ARGUMENT, () -> x.make(0, 5, 1));
    due("add", ARGUMENT, () -> x.add(0, true, 0, 0, 1));
    due("take", ARGUMENT, () -> x.take(0, 9, 1));
    due("told", ARGUMENT, () -> x.told(0, 0, 9, 0));
    due("rest", STATE, () -> x.rest(1, 0));
    due("restOf", ARGUMENT, () -> x.restOf(0, 1, 0));
    due("isSolvable", ARGUMENT, () -> x.isSolvable(0, 1, 0, 0));
    due("solve", INDEX, () -> x.solve(0, 1, 3, 0));
    due("digest() as before", before, () -> x.digest());
    String zero = x.text(0);
    due("add", -9, () -> x.add(0, true, 0, 1, 1));
    due("sum", -9, () -> x.sum(0, 0, false, 0));
    due("multiply", -9, () -> x.multiply(0, 1, 0));
    is(0, zero);
    is(1, "1 2 3");
    due("house(0)", 9, () -> x.house(0));
    due("house(1)", 3, () -> x.house(1));
  }
}
