/** Sentences of the promises 1 to 17: a new object, and the acts. */
final class ActsSentences extends Sentences {
  // ---- 1: a new object

  @Says(at = "Promise 1: A new object", words = "Creates four TABLES with one NUMBER, 0.")
  void fourTables() {
    for (int i = 0; i < 4; i++) {
      is(i, "0");
    }
    due("text(4)", INDEX, () -> x.text(4));
    due("text(-1)", INDEX, () -> x.text(-1));
    for (int what = 0; what <= 2; what++) {
      int by = what;
      due("house(" + what + ")", 0, () -> x.house(by));
    }
    due("house(3)", 6, () -> x.house(3));
  }

  // ---- 2: make

  @Says(at = "Promise 2: make", words = "A TABLE gets so many ROWS and COLUMNS, with 0 at all places.")
  void makeLeavesNothing() {
    set(0, "20 20 20 20/20 20 20 20/20 20 20 20/20 20 20 20");
    x.make(0, 4, 4);
    is(0, "0 0 0 0/0 0 0 0/0 0 0 0/0 0 0 0");
    set(0, "20 20 20 20/20 20 20 20/20 20 20 20/20 20 20 20");
    x.make(0, 1, 1);
    is(0, "0");
    x.widen(0, false);
    x.widen(0, true);
    is(0, "0 0/0 0");
    x.make(0, 1, 4);
    is(0, "0 0 0 0");
    x.make(0, 4, 1);
    is(0, "0/0/0/0");
  }

  @Says(at = "Promise 2: make", words = "Returns how many NUMBERS it had that are not 0.")
  void makeCounts() {
    isDone("make(0, 4, 4) of 0", 0, () -> x.make(0, 4, 4));
    isDone("make(0, 4, 4) of 0s", 0, () -> x.make(0, 4, 4));
    set(0, "0 0 0/0 0 -1");
    isDone("make(0, 1, 1) of one", 1, () -> x.make(0, 1, 1));
    set(0, "1 1 1 1/-1 -1 -1 -1/20 20 20 20/-20 -20 -20 -20");
    isDone("make(0, 1, 1) of 16", 16, () -> x.make(0, 1, 1));
  }

  @Says(at = "Promise 2: make", words = "Throws `IndexOutOfBoundsException` if there is no such TABLE")
  void makeNeedsTable() {
    needsTable("make(?, 1, 1)", t -> x.make(t, 1, 1));
  }

  @Says(at = "Promise 2: make", words = "Throws `IllegalArgumentException` if rows or columns is not 1 to 4")
  void makeNeedsCounts() {
    set(0, "1 2/3 4");
    needsFromTo("make(0, ?, 1)", ARGUMENT, 1, 4, n -> x.make(0, n, 1));
    needsFromTo("make(0, 4, ?)", ARGUMENT, 1, 4, n -> x.make(0, 4, n));
    isThrown("make(0, 0, 5)", ARGUMENT, () -> x.make(0, 0, 5));
    isThrown("make(0, 5, 0)", ARGUMENT, () -> x.make(0, 5, 0));
  }

  // ---- 3: unit

  @Says(at = "Promise 3: unit", words = "A TABLE becomes the UNIT table of so many ROWS.")
  void unitLeavesNothing() {
    set(0, "20 20 20 20/20 20 20 20/20 20 20 20/20 20 20 20");
    x.unit(0, 4);
    is(0, "1 0 0 0/0 1 0 0/0 0 1 0/0 0 0 1");
    set(0, "5 5 5 5");
    x.unit(0, 1);
    is(0, "1");
    x.widen(0, true);
    is(0, "1 0");
  }

  @Says(at = "Promise 3: unit", words = "Returns how many NUMBERS it had that are not 0.")
  void unitCounts() {
    isDone("unit(0, 4) of 0", 0, () -> x.unit(0, 4));
    isDone("unit(0, 4) of a UNIT table", 4, () -> x.unit(0, 4));
    set(0, "1 1 1 1/-1 -1 -1 -1/20 20 20 20/-20 -20 -20 -20");
    isDone("unit(0, 1) of 16", 16, () -> x.unit(0, 1));
    isDone("unit(0, 1) of one", 1, () -> x.unit(0, 1));
  }

  @Says(at = "Promise 3: unit", words = "Throws `IndexOutOfBoundsException` if there is no such TABLE")
  void unitNeedsTable() {
    needsTable("unit(?, 2)", t -> x.unit(t, 2));
  }

  @Says(at = "Promise 3: unit", words = "Throws `IllegalArgumentException` if size is not 1 to 4")
  void unitNeedsSize() {
    set(0, "1 2/3 4");
    needsFromTo("unit(0, ?)", ARGUMENT, 1, 4, n -> x.unit(0, n));
  }

  // ---- 4: put

  @Says(at = "Promise 4: put", words = "A NUMBER is put.")
  void putIntoTheCorners() {
    x.make(0, 4, 4);
    x.put(0, 0, 0, 1);
    x.put(0, 0, 3, -2);
    x.put(0, 3, 0, 20);
    x.put(0, 3, 3, -20);
    is(0, "1 0 0 -2/0 0 0 0/0 0 0 0/20 0 0 -20");
  }

  @Says(at = "Promise 4: put", words = "Returns 1 if another one was there, otherwise 0.")
  void putTellsAnother() {
    isDone("put(0, 0, 0, 0) on 0", 0, () -> x.put(0, 0, 0, 0));
    isDone("put(0, 0, 0, 1) on 0", 1, () -> x.put(0, 0, 0, 1));
    isDone("put(0, 0, 0, 1) on 1", 0, () -> x.put(0, 0, 0, 1));
    isDone("put(0, 0, 0, -1) on 1", 1, () -> x.put(0, 0, 0, -1));
    isDone("put(0, 0, 0, 0) on -1", 1, () -> x.put(0, 0, 0, 0));
  }

  @Says(at = "Promise 4: put", words = "Throws `IndexOutOfBoundsException` if there is no such TABLE, or no such ROW or COLUMN of it")
  void putNeedsPlace() {
    needsTable("put(?, 0, 0, 1)", t -> x.put(t, 0, 0, 1));
    set(0, "1 2 3/4 5 6");
    needsFromTo("put(0, ?, 2, 1)", INDEX, 0, 1, n -> x.put(0, n, 2, 1));
    needsFromTo("put(0, 1, ?, 1)", INDEX, 0, 2, n -> x.put(0, 1, n, 1));
    set(0, "1 2/3 4/5 6");
    needsFromTo("put(0, ?, 1, 1)", INDEX, 0, 2, n -> x.put(0, n, 1, 1));
    needsFromTo("put(0, 2, ?, 1)", INDEX, 0, 1, n -> x.put(0, 2, n, 1));
  }

  @Says(at = "Promise 4: put", words = "Throws `IllegalArgumentException` if number is not LET")
  void putNeedsLet() {
    set(0, "1 2/3 4");
    isThrown("put(0, 0, 0, 21)", ARGUMENT, () -> x.put(0, 0, 0, 21));
    isThrown("put(0, 0, 0, -21)", ARGUMENT, () -> x.put(0, 0, 0, -21));
    isThrown("put(0, 0, 0, LOW)", ARGUMENT, () -> x.put(0, 0, 0, LOW));
    isThrown("put(0, 0, 0, HIGH)", ARGUMENT, () -> x.put(0, 0, 0, HIGH));
    isDone("put(0, 0, 0, 20)", 1, () -> x.put(0, 0, 0, 20));
    isDone("put(0, 0, 1, -20)", 1, () -> x.put(0, 0, 1, -20));
    is(0, "20 -20/3 4");
  }

  // ---- 5: sow

  @Says(at = "Promise 5: sow", words = "x is the seed at first; ROW by ROW, COLUMN by COLUMN x becomes (x * 25173 + 13849) modulo 65536")
  void sowModulo65536() {
    // 2 * 25173 + 13849 is 64195, 3 * 25173 + 13849 is 65536 and 23832; by 64 these are 1003 and 372, rounded DOWN.
    sown("0", 0, 20, "-9");
    sown("0", 2, 20, "-1");
    sown("0", 3, 20, "-17");
    sown("0", 65535, 20, "7");
    sown("0 0 0/0 0 0", 7, 20, "-1 2 -2/14 0 -6");
    sown("0 0/0 0/0 0", 7, 20, "-1 2/-2 14/0 -6");
  }

  private void sown(String shape, int seed, int wide, String want) {
    set(0, shape);
    x.sow(0, seed, wide);
    due("text(0) behind sow(0, " + seed + ", " + wide + ")", want, () -> x.text(0));
  }

  @Says(at = "Promise 5: sow", words = "the NUMBER is (x / 64, rounded DOWN) modulo (2 * wide + 1), less wide")
  void sowFromLessWideToWide() {
    for (int wide : new int[] {0, 1, 2, 19, 20}) {
      x = new Gridmender();
      int least = 99;
      int most = -99;
      x.make(0, 4, 4);
      for (int seed = 0; seed < 24; seed++) {
        x.sow(0, seed * 2730, wide);
        for (String number : x.text(0).replace('/', ' ').split(" ")) {
          least = Math.min(least, Integer.parseInt(number));
          most = Math.max(most, Integer.parseInt(number));
        }
      }
      int first = least;
      int last = most;
      due("the least of wide " + wide, -wide, () -> first);
      due("the greatest of wide " + wide, wide, () -> last);
    }
  }

  @Says(at = "Promise 5: sow", words = "Returns how many are 0 then.")
  void sowCounts() {
    x.make(0, 4, 4);
    isDone("sow(0, 5, 0) of 16", 16, () -> x.sow(0, 5, 0));
    x.make(0, 1, 1);
    isDone("sow(0, 5, 0) of 1", 1, () -> x.sow(0, 5, 0));
    isDone("sow(0, 0, 20): -9", 0, () -> x.sow(0, 0, 20));
    x.make(0, 2, 3);
    isDone("sow(0, 7, 20): one 0", 1, () -> x.sow(0, 7, 20));
  }

  @Says(at = "Promise 5: sow", words = "Throws `IndexOutOfBoundsException` if there is no such TABLE")
  void sowNeedsTable() {
    needsTable("sow(?, 1, 1)", t -> x.sow(t, 1, 1));
  }

  @Says(at = "Promise 5: sow", words = "Throws `IllegalArgumentException` if seed is not 0 to 65535, or wide not 0 to 20")
  void sowNeedsSeedAndWide() {
    set(0, "1 2/3 4");
    for (int seed : new int[] {-1, 65536, LOW, HIGH}) {
      isThrown("sow(0, " + seed + ", 3)", ARGUMENT, () -> x.sow(0, seed, 3));
    }
    for (int wide : new int[] {-1, 21, LOW, HIGH}) {
      isThrown("sow(0, 3, " + wide + ")", ARGUMENT, () -> x.sow(0, 3, wide));
    }
    isDone("sow(0, 0, 0)", 4, () -> x.sow(0, 0, 0));
    isDone("sow(0, 65535, 0)", 4, () -> x.sow(0, 65535, 0));
    isDone("sow(0, 0, 20)", 0, () -> x.sow(0, 0, 20));
    isDone("sow(0, 65535, 20)", 0, () -> x.sow(0, 65535, 20));
  }

  // ---- 6: copy

  @Says(at = "Promise 6: copy", words = "A TABLE becomes as another one.")
  void copyIsNotBoundToTheOther() {
    set(0, "1 2/3 4");
    x.copy(0, 3);
    x.put(0, 0, 0, 9);
    x.put(3, 1, 1, 8);
    is(0, "9 2/3 4");
    is(3, "1 2/3 8");
    set(1, "1 2 3 4/5 6 7 8/9 10 11 12/13 14 15 16");
    x.copy(0, 1);
    is(1, "9 2/3 4");
    x.widen(1, true);
    x.widen(1, false);
    is(1, "9 2 0/3 4 0/0 0 0");
  }

  @Says(at = "Promise 6: copy", words = "the other one, or the same")
  void copyOfTheSame() {
    set(0, "1 2/3 4");
    isDone("copy(0, 0)", 0, () -> x.copy(0, 0));
    is(0, "1 2/3 4");
  }

  @Says(at = "Promise 6: copy", words = "Returns 1 if it was another one (by ROWS, COLUMNS or NUMBERS), otherwise 0.")
  void copyTellsAnother() {
    x.make(0, 2, 1);
    isDone("copy(0, 1): another by ROWS", 1, () -> x.copy(0, 1));
    isDone("copy(0, 1): alike", 0, () -> x.copy(0, 1));
    x.make(0, 2, 2);
    isDone("copy(0, 1): another by COLUMNS", 1, () -> x.copy(0, 1));
    x.put(0, 1, 1, 1);
    isDone("copy(0, 1): another by the last NUMBER", 1, () -> x.copy(0, 1));
    x.put(0, 0, 0, -1);
    isDone("copy(0, 1): another by the first NUMBER", 1, () -> x.copy(0, 1));
    isDone("copy(0, 1): alike", 0, () -> x.copy(0, 1));
    x.make(0, 1, 4);
    x.make(1, 4, 1);
    isDone("copy(0, 1): as many NUMBERS", 1, () -> x.copy(0, 1));
    is(1, "0 0 0 0");
  }

  @Says(at = "Promise 6: copy", words = "Throws `IndexOutOfBoundsException` if there is no such TABLE (both)")
  void copyNeedsTables() {
    set(0, "1 2/3 4");
    needsTable("copy(?, 1)", t -> x.copy(t, 1));
    needsTable("copy(1, ?)", t -> x.copy(1, t));
  }

  // ---- 7: swap

  @Says(at = "Promise 7: swap", words = "Each of two TABLES becomes what the other one was (ROWS, COLUMNS and NUMBERS).")
  void swapBoth() {
    set(0, "1 2 3 4");
    set(3, "5/6/7/8");
    x.swap(0, 3);
    is(0, "5/6/7/8");
    is(3, "1 2 3 4");
    x.put(0, 0, 0, 0);
    is(3, "1 2 3 4");
    x.swap(3, 0);
    is(0, "1 2 3 4");
    is(3, "0/6/7/8");
  }

  @Says(at = "Promise 7: swap", words = "a TABLE, or the same")
  void swapOfTheSame() {
    set(1, "1 2/3 4");
    isDone("swap(1, 1)", 0, () -> x.swap(1, 1));
    is(1, "1 2/3 4");
    x.put(1, 0, 0, 7);
    is(1, "7 2/3 4");
  }

  @Says(at = "Promise 7: swap", words = "Returns 1 if they are unlike, otherwise 0.")
  void swapTellsUnlike() {
    isDone("swap(0, 1) of alike ones", 0, () -> x.swap(0, 1));
    x.put(0, 0, 0, 1);
    isDone("swap(0, 1): unlike by the NUMBER", 1, () -> x.swap(0, 1));
    x.make(0, 1, 2);
    x.make(1, 2, 1);
    isDone("swap(0, 1): unlike by ROWS and COLUMNS", 1, () -> x.swap(0, 1));
    x.make(0, 2, 2);
    x.make(1, 2, 1);
    isDone("swap(0, 1): unlike by COLUMNS", 1, () -> x.swap(0, 1));
    x.make(0, 1, 2);
    x.make(1, 2, 2);
    isDone("swap(0, 1): unlike by ROWS", 1, () -> x.swap(0, 1));
  }

  @Says(at = "Promise 7: swap", words = "Throws `IndexOutOfBoundsException` if there is no such TABLE (both)")
  void swapNeedsTables() {
    set(0, "1 2/3 4");
    needsTable("swap(?, 1)", t -> x.swap(t, 1));
    needsTable("swap(1, ?)", t -> x.swap(1, t));
  }

  // ---- 8: flip

  @Says(at = "Promise 8: flip", words = "ROWS become COLUMNS: what was at i, j is at j, i.")
  void flipOfAllShapes() {
    set(0, "1 2 3 4/5 6 7 8/9 10 11 12/13 14 15 16");
    x.flip(0);
    is(0, "1 5 9 13/2 6 10 14/3 7 11 15/4 8 12 16");
    set(0, "1 2 3 4");
    x.flip(0);
    is(0, "1/2/3/4");
    x.flip(0);
    is(0, "1 2 3 4");
    set(0, "-7");
    x.flip(0);
    is(0, "-7");
  }

  @Says(at = "Promise 8: flip", words = "Returns how many ROWS it has then.")
  void flipCounts() {
    isDone("flip(0) of 1 x 1", 1, () -> x.flip(0));
    x.make(0, 1, 4);
    isDone("flip(0) of 1 x 4", 4, () -> x.flip(0));
    isDone("flip(0) of 4 x 1", 1, () -> x.flip(0));
    x.make(0, 3, 2);
    isDone("flip(0) of 3 x 2", 2, () -> x.flip(0));
  }

  @Says(at = "Promise 8: flip", words = "Throws `IndexOutOfBoundsException` if there is no such TABLE")
  void flipNeedsTable() {
    set(0, "1 2/3 4");
    needsTable("flip(?)", t -> x.flip(t));
  }

  // ---- 9: exchange

  @Says(at = "Promise 9: exchange", words = "Two ROWS are exchanged, or two COLUMNS.")
  void exchangeTheFirstAndTheLast() {
    set(0, "1 2 3 4/5 6 7 8/9 10 11 12/13 14 15 16");
    x.exchange(0, false, 0, 3);
    is(0, "13 14 15 16/5 6 7 8/9 10 11 12/1 2 3 4");
    x.exchange(0, true, 3, 0);
    is(0, "16 14 15 13/8 6 7 5/12 10 11 9/4 2 3 1");
  }

  @Says(at = "Promise 9: exchange", words = "the other one, or the same")
  void exchangeOfTheSame() {
    set(0, "1 2/3 4");
    isDone("exchange(0, false, 1, 1)", 0, () -> x.exchange(0, false, 1, 1));
    isDone("exchange(0, true, 0, 0)", 0, () -> x.exchange(0, true, 0, 0));
    is(0, "1 2/3 4");
  }

  @Says(at = "Promise 9: exchange", words = "Returns how many NUMBERS are others then.")
  void exchangeCounts() {
    set(0, "1 2 3 4/1 2 3 5");
    isDone("exchange(0, false, 0, 1)", 2, () -> x.exchange(0, false, 0, 1));
    isDone("exchange(0, true, 0, 3)", 4, () -> x.exchange(0, true, 0, 3));
    set(0, "1 1/1 1");
    isDone("exchange(0, false, 0, 1) of alike ROWS", 0, () -> x.exchange(0, false, 0, 1));
    isDone("exchange(0, true, 0, 1) of alike COLUMNS", 0, () -> x.exchange(0, true, 0, 1));
    set(0, "1 2 3 4/5 6 7 8/9 10 11 12/13 14 15 16");
    isDone("exchange(0, true, 1, 2)", 8, () -> x.exchange(0, true, 1, 2));
  }

  @Says(at = "Promise 9: exchange", words = "Throws `IndexOutOfBoundsException` if there is no such TABLE, or no such ROW (COLUMN) of it (both)")
  void exchangeNeedsLines() {
    needsTable("exchange(?, false, 0, 0)", t -> x.exchange(t, false, 0, 0));
    set(0, "1 2 3/4 5 6");
    needsFromTo("exchange(0, false, ?, 0)", INDEX, 0, 1, n -> x.exchange(0, false, n, 0));
    needsFromTo("exchange(0, false, 0, ?)", INDEX, 0, 1, n -> x.exchange(0, false, 0, n));
    needsFromTo("exchange(0, true, ?, 0)", INDEX, 0, 2, n -> x.exchange(0, true, n, 0));
    needsFromTo("exchange(0, true, 0, ?)", INDEX, 0, 2, n -> x.exchange(0, true, 0, n));
    isThrown("exchange(0, false, 2, 2)", INDEX, () -> x.exchange(0, false, 2, 2));
    isThrown("exchange(0, true, 3, 3)", INDEX, () -> x.exchange(0, true, 3, 3));
  }

  // ---- 10: turn

  @Says(at = "Promise 10: turn", words = "The signs of a ROW are turned, or those of a COLUMN.")
  void turnOfTheLast() {
    set(0, "20 -20 0 1/1 2 3 4");
    x.turn(0, false, 0);
    is(0, "-20 20 0 -1/1 2 3 4");
    x.turn(0, true, 3);
    is(0, "-20 20 0 1/1 2 3 -4");
    x.turn(0, false, 1);
    is(0, "-20 20 0 1/-1 -2 -3 4");
  }

  @Says(at = "Promise 10: turn", words = "Returns how many NUMBERS are others then.")
  void turnCounts() {
    isDone("turn(0, false, 0) of 0", 0, () -> x.turn(0, false, 0));
    isDone("turn(0, true, 0) of 0", 0, () -> x.turn(0, true, 0));
    set(0, "1 0 -1 20/0 0 0 0");
    isDone("turn(0, false, 0)", 3, () -> x.turn(0, false, 0));
    isDone("turn(0, false, 1)", 0, () -> x.turn(0, false, 1));
    isDone("turn(0, true, 3)", 1, () -> x.turn(0, true, 3));
  }

  @Says(at = "Promise 10: turn", words = "Throws `IndexOutOfBoundsException` if there is no such TABLE, or no such ROW (COLUMN) of it")
  void turnNeedsLine() {
    needsTable("turn(?, false, 0)", t -> x.turn(t, false, 0));
    set(0, "1 2 3/4 5 6");
    needsFromTo("turn(0, false, ?)", INDEX, 0, 1, n -> x.turn(0, false, n));
    needsFromTo("turn(0, true, ?)", INDEX, 0, 2, n -> x.turn(0, true, n));
  }

  // ---- 11: add

  @Says(at = "Promise 11: add", words = "So many times a ROW is added to another ROW, or likewise of COLUMNS.")
  void addOfTheFirstAndTheLast() {
    set(0, "1 2 0 1/0 0 0 0/0 0 0 0/4 3 2 1");
    x.add(0, false, 3, 0, 2);
    is(0, "1 2 0 1/0 0 0 0/0 0 0 0/6 7 2 3");
    x.add(0, true, 0, 3, 1);
    is(0, "2 2 0 1/0 0 0 0/0 0 0 0/9 7 2 3");
  }

  @Says(at = "Promise 11: add", words = "how many times; below 0 it is taken off")
  void addBelowNull() {
    set(0, "1 0/5 20");
    isDone("add(0, false, 0, 1, -1)", 2, () -> x.add(0, false, 0, 1, -1));
    is(0, "-4 -20/5 20");
    isDone("add(0, false, 0, 1, 0)", 0, () -> x.add(0, false, 0, 1, 0));
    isDone("add(0, false, 0, 1, 1)", 2, () -> x.add(0, false, 0, 1, 1));
    is(0, "1 0/5 20");
  }

  @Says(at = "Promise 11: add", words = "Returns how many NUMBERS are others then; REFUSED, if one would not be LET.")
  void addRefuses() {
    set(0, "1 0 20/1 0 0");
    isDone("add(0, false, 0, 1, 19)", 1, () -> x.add(0, false, 0, 1, 19));
    is(0, "20 0 20/1 0 0");
    isRefused("add(0, false, 0, 1, 1): 21", () -> x.add(0, false, 0, 1, 1));
    set(0, "1 -20/0 0/0 -1");
    isDone("add(0, false, 0, 1, 20)", 0, () -> x.add(0, false, 0, 1, 20));
    isRefused("add(0, false, 0, 2, 1): -21 in the last COLUMN", () -> x.add(0, false, 0, 2, 1));
    isDone("add(0, true, 0, 1, 1)", 2, () -> x.add(0, true, 0, 1, 1));
    is(0, "-19 -20/0 0/-1 -1");
    isRefused("add(0, true, 0, 1, 1): -39", () -> x.add(0, true, 0, 1, 1));
    set(0, "1 1/0 0/20 1");
    isRefused("add(0, true, 0, 1, 1): 21 in the last ROW", () -> x.add(0, true, 0, 1, 1));
  }

  @Says(at = "Promise 11: add", words = "Throws `IndexOutOfBoundsException` if there is no such TABLE, or no such ROW (COLUMN) of it (both)")
  void addNeedsLines() {
    for (int i = 0; i < 4; i++) {
      x.make(i, 2, 2);
    }
    needsTable("add(?, false, 0, 1, 1)", t -> x.add(t, false, 0, 1, 1));
    set(0, "1 0 1/0 0 1");
    needsFromTo("add(0, false, ?, 1, 0)", INDEX, 0, 1, n -> x.add(0, false, n, 1, 0));
    needsFromTo("add(0, false, 1, ?, 0)", INDEX, 0, 1, n -> x.add(0, false, 1, n, 0));
    needsFromTo("add(0, true, ?, 2, 0)", INDEX, 0, 2, n -> x.add(0, true, n, 2, 0));
    needsFromTo("add(0, true, 2, ?, 0)", INDEX, 0, 2, n -> x.add(0, true, 2, n, 0));
  }

  @Says(at = "Promise 11: add", words = "Throws `IllegalArgumentException` if to is from, or times is not -20 to 20")
  void addNeedsAnotherAndTimes() {
    set(0, "0 0/1 -1");
    isThrown("add(0, false, 1, 1, 0)", ARGUMENT, () -> x.add(0, false, 1, 1, 0));
    isThrown("add(0, true, 0, 0, 1)", ARGUMENT, () -> x.add(0, true, 0, 0, 1));
    isThrown("add(0, false, 0, 1, 21)", ARGUMENT, () -> x.add(0, false, 0, 1, 21));
    isThrown("add(0, false, 0, 1, -21)", ARGUMENT, () -> x.add(0, false, 0, 1, -21));
    isThrown("add(0, false, 1, 0, LOW)", ARGUMENT, () -> x.add(0, false, 1, 0, LOW));
    isThrown("add(0, false, 1, 0, HIGH)", ARGUMENT, () -> x.add(0, false, 1, 0, HIGH));
    isDone("add(0, false, 0, 1, 20)", 2, () -> x.add(0, false, 0, 1, 20));
    is(0, "20 -20/1 -1");
    isDone("add(0, false, 0, 1, -20)", 2, () -> x.add(0, false, 0, 1, -20));
    isDone("add(0, false, 1, 0, 20)", 0, () -> x.add(0, false, 1, 0, 20));
    is(0, "0 0/1 -1");
  }

  // ---- 12: widen

  @Says(at = "Promise 12: widen", words = "A ROW of 0s comes behind all others, or a COLUMN of 0s.")
  void widenWithNulls() {
    set(0, "1 2 3/4 5 6/7 8 9");
    x.drop(0, false, 2);
    x.drop(0, true, 2);
    x.widen(0, false);
    is(0, "1 2/4 5/0 0");
    x.widen(0, true);
    is(0, "1 2 0/4 5 0/0 0 0");
  }

  private void full() {
    set(0, "9 9 9 9/9 9 9 9/9 9 9 9/9 9 9 9");
  }

  private void widened(String behind, String want) {
    x.widen(0, false);
    x.widen(0, true);
    due("text(0) behind " + behind + " and widen()", want, () -> x.text(0));
  }

  @Says(at = "Promise 12: widen", words = "A ROW of 0s comes behind all others, or a COLUMN of 0s.")
  void widenBehindEachActThatLeavesFewer() {
    full();
    x.make(0, 2, 2);
    widened("make", "0 0 0/0 0 0/0 0 0");
    full();
    x.unit(0, 2);
    widened("unit", "1 0 0/0 1 0/0 0 0");
    full();
    set(1, "1 2");
    x.copy(1, 0);
    widened("copy", "1 2 0/0 0 0");
    full();
    x.swap(0, 1);
    widened("swap", "1 2 0/0 0 0");
    full();
    x.drop(0, false, 3);
    x.flip(0);
    x.drop(0, false, 0);
    widened("flip", "9 9 9 0/9 9 9 0/9 9 9 0/0 0 0 0");
    x = new Gridmender();
    full();
    set(1, "1 2");
    x.sum(1, 1, false, 0);
    widened("sum", "2 4 0/0 0 0");
    full();
    set(2, "3/4");
    x.multiply(1, 2, 0);
    widened("multiply", "11 0/0 0");
    full();
    x.take(1, 2, 0);
    widened("take", "1 0 0/0 0 0");
    full();
    x.solve(2, 2, 0, 0);
    widened("solve", "1 0/0 0");
  }

  @Says(at = "Promise 12: widen", words = "Returns how many there are then; REFUSED, if there are 4.")
  void widenUpTo4() {
    for (int lines = 2; lines <= 4; lines++) {
      isDone("widen(0, false)", lines, () -> x.widen(0, false));
    }
    isRefused("widen(0, false) of 4 ROWS", () -> x.widen(0, false));
    for (int lines = 2; lines <= 4; lines++) {
      isDone("widen(0, true)", lines, () -> x.widen(0, true));
    }
    isRefused("widen(0, true) of 4 COLUMNS", () -> x.widen(0, true));
    is(0, "0 0 0 0/0 0 0 0/0 0 0 0/0 0 0 0");
  }

  @Says(at = "Promise 12: widen", words = "Throws `IndexOutOfBoundsException` if there is no such TABLE")
  void widenNeedsTable() {
    needsTable("widen(?, false)", t -> x.widen(t, false));
    needsTable("widen(?, true)", t -> x.widen(t, true));
  }

  // ---- 13: drop

  @Says(at = "Promise 13: drop", words = "A ROW goes, or a COLUMN; those behind it move up.")
  void dropOfTheFirstTheMiddleAndTheLast() {
    set(0, "1 2 3 4/5 6 7 8/9 10 11 12/13 14 15 16");
    x.drop(0, false, 1);
    is(0, "1 2 3 4/9 10 11 12/13 14 15 16");
    x.drop(0, true, 0);
    is(0, "2 3 4/10 11 12/14 15 16");
    x.drop(0, false, 2);
    is(0, "2 3 4/10 11 12");
    x.drop(0, true, 1);
    is(0, "2 4/10 12");
    x.drop(0, true, 1);
    is(0, "2/10");
    x.drop(0, false, 0);
    is(0, "10");
  }

  @Says(at = "Promise 13: drop", words = "Returns how many are left; REFUSED, if it is the only one.")
  void dropDownTo1() {
    x.make(0, 4, 4);
    for (int lines = 3; lines >= 1; lines--) {
      isDone("drop(0, false, 0)", lines, () -> x.drop(0, false, 0));
    }
    isRefused("drop(0, false, 0) of the only ROW", () -> x.drop(0, false, 0));
    for (int lines = 3; lines >= 1; lines--) {
      isDone("drop(0, true, 0)", lines, () -> x.drop(0, true, 0));
    }
    isRefused("drop(0, true, 0) of the only COLUMN", () -> x.drop(0, true, 0));
    is(0, "0");
  }

  @Says(at = "Promise 13: drop", words = "Throws `IndexOutOfBoundsException` if there is no such TABLE, or no such ROW (COLUMN) of it")
  void dropNeedsLine() {
    needsTable("drop(?, false, 0)", t -> x.drop(t, false, 0));
    needsTable("drop(?, true, 0)", t -> x.drop(t, true, 0));
    x.make(0, 2, 4);
    isThrown("drop(0, false, 2)", INDEX, () -> x.drop(0, false, 2));
    isThrown("drop(0, false, -1)", INDEX, () -> x.drop(0, false, -1));
    isThrown("drop(0, true, 4)", INDEX, () -> x.drop(0, true, 4));
    isThrown("drop(0, true, -1)", INDEX, () -> x.drop(0, true, -1));
    isThrown("drop(0, true, LOW)", INDEX, () -> x.drop(0, true, LOW));
    isThrown("drop(0, true, HIGH)", INDEX, () -> x.drop(0, true, HIGH));
    isDone("drop(0, true, 3)", 3, () -> x.drop(0, true, 3));
    isThrown("drop(0, true, 3) of three", INDEX, () -> x.drop(0, true, 3));
    isDone("drop(0, false, 1)", 1, () -> x.drop(0, false, 1));
    isThrown("drop(0, false, 1) of one", INDEX, () -> x.drop(0, false, 1));
  }

  // ---- 14: sum

  @Says(at = "Promise 14: sum", words = "A TABLE becomes the sum of two, place by place, or the one less the other one.")
  void sumIntoOneOfThem() {
    set(0, "1 2/3 4");
    set(1, "1 -2/0 5");
    isDone("sum(0, 1, true, 0)", 3, () -> x.sum(0, 1, true, 0));
    is(0, "0 4/3 -1");
    isDone("sum(0, 1, true, 1)", 4, () -> x.sum(0, 1, true, 1));
    is(1, "-1 6/3 -6");
    isDone("sum(1, 1, false, 1)", 4, () -> x.sum(1, 1, false, 1));
    is(1, "-2 12/6 -12");
    isDone("sum(1, 1, true, 3)", 0, () -> x.sum(1, 1, true, 3));
    is(3, "0 0/0 0");
  }

  @Says(at = "Promise 14: sum", words = "REFUSED, if the two have unlike numbers of ROWS, or of COLUMNS, or a number would not be LET")
  void sumRefuses() {
    x.make(0, 2, 3);
    x.make(1, 3, 3);
    isRefused("sum(0, 1, false, 2) of more ROWS", () -> x.sum(0, 1, false, 2));
    isRefused("sum(1, 0, false, 2) of fewer ROWS", () -> x.sum(1, 0, false, 2));
    x.make(1, 2, 2);
    isRefused("sum(0, 1, true, 2) of fewer COLUMNS", () -> x.sum(0, 1, true, 2));
    isRefused("sum(1, 0, true, 2) of more COLUMNS", () -> x.sum(1, 0, true, 2));
    x.make(1, 3, 2);
    isRefused("sum(0, 1, true, 2) of both unlike", () -> x.sum(0, 1, true, 2));
    x.make(1, 2, 3);
    isDone("sum(0, 1, false, 2)", 0, () -> x.sum(0, 1, false, 2));
    x.put(0, 1, 2, 20);
    isDone("sum(0, 1, false, 2): 20", 1, () -> x.sum(0, 1, false, 2));
    x.put(1, 1, 2, 1);
    isRefused("sum(0, 1, false, 2): 21", () -> x.sum(0, 1, false, 2));
    isDone("sum(0, 1, true, 2): 19", 1, () -> x.sum(0, 1, true, 2));
    x.put(0, 1, 2, -20);
    isRefused("sum(0, 1, true, 2): -21", () -> x.sum(0, 1, true, 2));
    isRefused("sum(1, 0, true, 2): 21", () -> x.sum(1, 0, true, 2));
    x.put(1, 1, 2, 0);
    isDone("sum(0, 1, true, 2): -20", 1, () -> x.sum(0, 1, true, 2));
  }

  @Says(at = "Promise 14: sum", words = "Throws `IndexOutOfBoundsException` if there is no such TABLE (one, other and into)")
  void sumNeedsTables() {
    needsTable("sum(?, 1, false, 2)", t -> x.sum(t, 1, false, 2));
    needsTable("sum(1, ?, false, 2)", t -> x.sum(1, t, false, 2));
    needsTable("sum(1, 2, false, ?)", t -> x.sum(1, 2, false, t));
  }

  // ---- 15: multiply

  @Says(at = "Promise 15: multiply", words = "A TABLE becomes the PRODUCT of two.")
  void multiplyIntoOneOfThem() {
    set(0, "1 2/0 1");
    set(1, "1 0/3 1");
    isDone("multiply(0, 1, 0)", 4, () -> x.multiply(0, 1, 0));
    is(0, "7 2/3 1");
    isDone("multiply(1, 1, 1)", 3, () -> x.multiply(1, 1, 1));
    is(1, "1 0/6 1");
    set(2, "1 2 -1/0 0 1");
    isDone("multiply(0, 2, 2)", 6, () -> x.multiply(0, 2, 2));
    is(2, "7 14 -5/3 6 -2");
  }

  @Says(at = "Promise 15: multiply", words = "REFUSED, if the first one has another number of COLUMNS than the second one has of ROWS, or a number would not be LET")
  void multiplyRefuses() {
    x.make(0, 2, 3);
    x.make(1, 2, 3);
    isRefused("multiply(0, 1, 2) of 3 COLUMNS and 2 ROWS", () -> x.multiply(0, 1, 2));
    x.flip(1);
    isDone("multiply(0, 1, 2)", 0, () -> x.multiply(0, 1, 2));
    is(2, "0 0/0 0");
    isDone("multiply(1, 0, 2)", 0, () -> x.multiply(1, 0, 2));
    is(2, "0 0 0/0 0 0/0 0 0");
    x.widen(1, false);
    isRefused("multiply(0, 1, 2) of 3 COLUMNS and 4 ROWS", () -> x.multiply(0, 1, 2));
    set(0, "0 0/5 1");
    set(1, "0 4/0 0");
    isDone("multiply(0, 1, 2): 20", 1, () -> x.multiply(0, 1, 2));
    x.put(1, 1, 1, 1);
    isRefused("multiply(0, 1, 2): 21", () -> x.multiply(0, 1, 2));
    x.turn(0, false, 1);
    isRefused("multiply(0, 1, 2): -21", () -> x.multiply(0, 1, 2));
    x.put(1, 1, 1, 0);
    isDone("multiply(0, 1, 2): -20", 1, () -> x.multiply(0, 1, 2));
  }

  @Says(at = "Promise 15: multiply", words = "Throws `IndexOutOfBoundsException` if there is no such TABLE (one, other and into)")
  void multiplyNeedsTables() {
    needsTable("multiply(?, 1, 2)", t -> x.multiply(t, 1, 2));
    needsTable("multiply(1, ?, 2)", t -> x.multiply(1, t, 2));
    needsTable("multiply(1, 2, ?)", t -> x.multiply(1, 2, t));
  }

  // ---- 16: take

  private void taken(String text, int what, int want, String form) {
    set(0, text);
    if (want == REFUSED) {
      isRefused("take(0, " + what + ", 1) of " + text, () -> x.take(0, what, 1));
    } else {
      isDone("take(0, " + what + ", 1) of " + text, want, () -> x.take(0, what, 1));
      is(1, form);
    }
    is(0, text);
  }

  @Says(at = "Promise 16: take", words = "0 the STEPPED form, 1 the ROW CHANGE, 2 the DIAGONAL, 3 the LEFT CHANGE, 4 the RIGHT CHANGE")
  void takeOfEach() {
    taken("0 -6 0/4 0 0", 0, 2, "4 0 0/0 6 0");
    taken("0 -6 0/4 0 0", 1, 2, "0 1/-1 0");
    taken("0 -6 0/4 0 0", 2, 2, "2 0 0/0 12 0");
    taken("0 -3 0/1 0 0", 3, 2, "0 1/-1 0");
    taken("0 -3 0/0 0 1", 4, 3, "0 0 1/0 1 0/1 0 0");
  }

  @Says(at = "Promise 16: take", words = "A TABLE becomes what is told of a TABLE.")
  void takeIntoTheSame() {
    set(0, "1 2/3 4");
    isDone("take(0, 2, 0)", 2, () -> x.take(0, 2, 0));
    is(0, "1 0/0 2");
    set(0, "2/4/6");
    isDone("take(0, 1, 0)", 5, () -> x.take(0, 1, 0));
    is(0, "1 0 0/-2 1 0/-3 0 1");
    set(0, "2 4 6");
    isDone("take(0, 4, 0)", 5, () -> x.take(0, 4, 0));
    is(0, "1 -2 -3/0 1 0/0 0 1");
  }

  @Says(at = "Promise 16: take", words = "Returns how many NUMBERS it has that are not 0")
  void takeCounts() {
    taken("0 0/0 0", 0, 0, "0 0/0 0");
    taken("0 0/0 0", 1, 2, "1 0/0 1");
    taken("0 0/0 0", 2, 0, "0 0/0 0");
    taken("5 0/0 5", 2, 2, "5 0/0 5");
    taken("3 5 7", 4, 7, "-2 3 7/0 1 0/1 -2 -3");
  }

  @Says(at = "Promise 16: take", words = "REFUSED, if the STEPS (of 0 and 1 the ROW STEPS) are GREAT, or a number would not be LET")
  void takeRefusesGreatSteps() {
    set(0, Tables.ROW_STEPS_GREAT_BUT_NOT_STEPS);
    isRefused("take(0, 0, 1)", () -> x.take(0, 0, 1));
    isRefused("take(0, 1, 1)", () -> x.take(0, 1, 1));
    due("take(0, 2, 1) is REFUSED", false, () -> x.take(0, 2, 1) == REFUSED);
    set(0, Tables.STEPS_GREAT_BUT_NOT_ROW_STEPS);
    for (int what = 2; what <= 4; what++) {
      int form = what;
      isRefused("take(0, " + what + ", 1)", () -> x.take(0, form, 1));
    }
    due("take(0, 0, 1) is REFUSED", false, () -> x.take(0, 0, 1) == REFUSED);
  }

  @Says(at = "Promise 16: take", words = "REFUSED, if the STEPS (of 0 and 1 the ROW STEPS) are GREAT, or a number would not be LET")
  void takeRefusesWhatIsNotLet() {
    taken("20", 0, 1, "20");
    taken("1 -20", 0, 2, "1 -20");
    taken("1 -5/4 1", 0, REFUSED, "");
    taken("-1 -5 1/0 -1 -4", 0, REFUSED, "");
    taken("-1/20", 1, 3, "-1 0/20 1");
    taken("1/20", 1, 3, "1 0/-20 1");
    taken("-15/-7/12", 1, REFUSED, "");
    taken("18/-11/5", 1, REFUSED, "");
    taken("4 0/0 5", 2, 2, "1 0/0 20");
    taken("-7 0/0 3", 2, REFUSED, "");
    taken("-1/20", 3, 3, "-1 0/20 1");
    taken("1/20", 3, 3, "1 0/-20 1");
    taken("-5/-11/18", 3, REFUSED, "");
    taken("12/-15/7", 3, REFUSED, "");
    taken("20 1", 4, 3, "0 1/1 -20");
    taken("20 -1", 4, 3, "0 1/1 20");
    taken("19 5 -12", 4, REFUSED, "");
    taken("11 -18 -5", 4, REFUSED, "");
  }

  @Says(at = "Promise 16: take", words = "Throws `IndexOutOfBoundsException` if there is no such TABLE (both)")
  void takeNeedsTables() {
    needsTable("take(?, 0, 1)", t -> x.take(t, 0, 1));
    needsTable("take(1, 2, ?)", t -> x.take(1, 2, t));
  }

  @Says(at = "Promise 16: take", words = "Throws `IllegalArgumentException` if what is not 0 to 4")
  void takeNeedsWhat() {
    set(0, "1 2/3 4");
    needsFromTo("take(0, ?, 1)", ARGUMENT, 0, 4, n -> x.take(0, n, 1));
  }

  // ---- 17: solve

  @Says(at = "Promise 17: solve", words = "A TABLE becomes the told SOLUTION, as its only COLUMN.")
  void solveIntoOneOfThem() {
    set(0, "1 0/0 2/0 0");
    set(1, "9 3/9 4/9 0");
    isDone("solve(0, 1, 1, 1)", 2, () -> x.solve(0, 1, 1, 1));
    is(1, "3/2");
    set(1, "5/0/0");
    isDone("solve(0, 1, 0, 0)", 1, () -> x.solve(0, 1, 0, 0));
    is(0, "5/0");
    set(0, "3 1/1 0");
    isDone("solve(0, 0, 0, 0)", 1, () -> x.solve(0, 0, 0, 0));
    is(0, "1/0");
    set(0, "0 0 0 1");
    set(1, "7");
    isDone("solve(0, 1, 0, 3)", 1, () -> x.solve(0, 1, 0, 3));
    is(3, "0/0/0/7");
  }

  @Says(at = "Promise 17: solve", words = "Returns how many NUMBERS it has that are not 0")
  void solveCounts() {
    x.unit(0, 4);
    set(1, "0 1 1/0 0 -1/0 0 1/0 0 -1");
    isDone("solve(0, 1, 0, 2)", 0, () -> x.solve(0, 1, 0, 2));
    is(2, "0/0/0/0");
    isDone("solve(0, 1, 1, 2)", 1, () -> x.solve(0, 1, 1, 2));
    isDone("solve(0, 1, 2, 2)", 4, () -> x.solve(0, 1, 2, 2));
  }

  @Says(at = "Promise 17: solve", words = "REFUSED, if both have unlike numbers of ROWS")
  void solveRefusesUnlikeRows() {
    x.make(0, 2, 3);
    x.make(1, 1, 2);
    isRefused("solve(0, 1, 0, 2) of 2 ROWS and 1", () -> x.solve(0, 1, 0, 2));
    x.make(1, 3, 2);
    isRefused("solve(0, 1, 0, 2) of 2 ROWS and 3", () -> x.solve(0, 1, 0, 2));
    x.make(1, 2, 2);
    isDone("solve(0, 1, 0, 2) of 2 ROWS and 2", 0, () -> x.solve(0, 1, 0, 2));
  }

  @Says(at = "Promise 17: solve", words = "if it is GREAT, if there is none")
  void solveRefusesGreatAndNone() {
    set(0, Tables.STEPS_L_1000000001);
    x.make(1, 4, 1);
    isRefused("solve(0, 1, 0, 2) of GREAT STEPS", () -> x.solve(0, 1, 0, 2));
    set(0, Tables.ROW_STEPS_GREAT_BUT_NOT_STEPS);
    isDone("solve(0, 1, 0, 2) of GREAT ROW STEPS", 0, () -> x.solve(0, 1, 0, 2));
    set(0, "2 0/0 0");
    set(1, "4 3 4/0 0 1");
    isDone("solve(0, 1, 0, 2)", 1, () -> x.solve(0, 1, 0, 2));
    isRefused("solve(0, 1, 1, 2): 2 does not divide 3", () -> x.solve(0, 1, 1, 2));
    isRefused("solve(0, 1, 2, 2): 0 does not divide 1", () -> x.solve(0, 1, 2, 2));
  }

  @Says(at = "Promise 17: solve", words = "or a number would not be LET")
  void solveRefusesWhatIsNotLet() {
    set(0, "1 3/0 1");
    set(1, "20 -20 -1/0 0 7");
    isDone("solve(0, 1, 0, 2): 20", 1, () -> x.solve(0, 1, 0, 2));
    is(2, "20/0");
    isDone("solve(0, 1, 1, 2): -20", 1, () -> x.solve(0, 1, 1, 2));
    is(2, "-20/0");
    isRefused("solve(0, 1, 2, 2): -22", () -> x.solve(0, 1, 2, 2));
    set(1, "0 1 0 -1/7 7 -7 -7");
    isRefused("solve(0, 1, 0, 2): -21", () -> x.solve(0, 1, 0, 2));
    isDone("solve(0, 1, 1, 2): -20", 2, () -> x.solve(0, 1, 1, 2));
    is(2, "-20/7");
    isRefused("solve(0, 1, 2, 2): 21", () -> x.solve(0, 1, 2, 2));
    isDone("solve(0, 1, 3, 2): 20", 2, () -> x.solve(0, 1, 3, 2));
    is(2, "20/-7");
  }

  @Says(at = "Promise 17: solve", words = "Throws `IndexOutOfBoundsException` if there is no such TABLE (table, other and into), or no such COLUMN of other")
  void solveNeedsTablesAndColumn() {
    needsTable("solve(?, 1, 0, 2)", t -> x.solve(t, 1, 0, 2));
    needsTable("solve(1, ?, 0, 2)", t -> x.solve(1, t, 0, 2));
    needsTable("solve(1, 2, 0, ?)", t -> x.solve(1, 2, 0, t));
    x.make(0, 2, 4);
    x.make(1, 2, 3);
    needsFromTo("solve(0, 1, ?, 2)", INDEX, 0, 2, n -> x.solve(0, 1, n, 2));
  }
}
