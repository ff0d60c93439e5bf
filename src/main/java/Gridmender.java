/** Four tables of whole numbers: changed, added, multiplied, and asked for what whole numbers tell of them. */
public final class Gridmender {
  private static final int REFUSED = -9;
  private static final int TABLES = 4;
  private static final int MOST_LINES = 4;
  // One more than a TABLE has: isSolvable() looks at a TABLE with another COLUMN behind its own.
  private static final int WIDEST = 5;
  private static final int GREATEST_LET = 20;
  private static final int MOST_TIMES = 20;
  private static final long GREAT_FROM = 1000000000L;
  // The steps shrink what they divide by, so that a few dozen passes do; this only shows that they end.
  private static final int MOST_PASSES = 1000000;

  private static final int STEPPED = 0;
  private static final int ROW_CHANGE = 1;
  private static final int DIAGONAL = 2;
  private static final int LEFT_CHANGE = 3;
  private static final int RIGHT_CHANGE = 4;

  private final Grid[] tables = new Grid[TABLES];
  private final Grid draft = new Grid();
  private final Grid check = new Grid();
  private final RowSteps rowSteps = new RowSteps();
  private final DiagonalSteps diagonalSteps = new DiagonalSteps();
  private final Equation equation = new Equation();
  private final long[] rowNumbers = new long[MOST_LINES];
  private int acts;
  private int refusals;
  private int knocks;

  public Gridmender() {
    for (int i = 0; i < TABLES; i++) {
      tables[i] = new Grid();
    }
  }

  // ---- acts

  public int make(int table, int rows, int columns) throws IndexOutOfBoundsException, IllegalArgumentException {
    Grid grid = needTable(table);
    needArgument(isCount(rows) && isCount(columns));
    int filled = grid.countFilled();
    grid.reshape(rows, columns);
    return tellDone(filled);
  }

  public int unit(int table, int size) throws IndexOutOfBoundsException, IllegalArgumentException {
    Grid grid = needTable(table);
    needArgument(isCount(size));
    int filled = grid.countFilled();
    grid.becomeUnit(size);
    return tellDone(filled);
  }

  public int put(int table, int row, int column, int number) throws IndexOutOfBoundsException, IllegalArgumentException {
    Grid grid = needTable(table);
    needIndex(grid.hasLine(false, row) && grid.hasLine(true, column));
    needArgument(number >= -GREATEST_LET && number <= GREATEST_LET);
    boolean isOther = grid.get(row, column) != number;
    grid.set(row, column, number);
    return tellDone(isOther ? 1 : 0);
  }

  public int sow(int table, int seed, int wide) throws IndexOutOfBoundsException, IllegalArgumentException {
    Grid grid = needTable(table);
    needArgument(seed >= 0 && seed <= 65535 && wide >= 0 && wide <= GREATEST_LET);
    int x = seed;
    for (int i = 0; i < grid.rows; i++) {
      for (int j = 0; j < grid.columns; j++) {
        x = (x * 25173 + 13849) % 65536;
        grid.set(i, j, remainder(x / 64, 2 * wide + 1) - wide);
      }
    }
    return tellDone(grid.rows * grid.columns - grid.countFilled());
  }

  public int copy(int from, int into) throws IndexOutOfBoundsException {
    Grid source = needTable(from);
    Grid target = needTable(into);
    boolean isOther = !target.isLike(source);
    target.becomeLike(source);
    return tellDone(isOther ? 1 : 0);
  }

  public int swap(int one, int other) throws IndexOutOfBoundsException {
    Grid first = needTable(one);
    Grid second = needTable(other);
    boolean isUnlike = !first.isLike(second);
    draft.becomeLike(first);
    first.becomeLike(second);
    second.becomeLike(draft);
    return tellDone(isUnlike ? 1 : 0);
  }

  public int flip(int table) throws IndexOutOfBoundsException {
    Grid grid = needTable(table);
    draft.reshape(grid.columns, grid.rows);
    for (int i = 0; i < grid.rows; i++) {
      for (int j = 0; j < grid.columns; j++) {
        draft.set(j, i, grid.get(i, j));
      }
    }
    grid.becomeLike(draft);
    return tellDone(grid.rows);
  }

  public int exchange(int table, boolean isColumn, int one, int other) throws IndexOutOfBoundsException {
    Grid grid = needTable(table);
    needIndex(grid.hasLine(isColumn, one) && grid.hasLine(isColumn, other));
    draft.becomeLike(grid);
    draft.exchangeLines(isColumn, one, other);
    return settleChange(grid);
  }

  public int turn(int table, boolean isColumn, int k) throws IndexOutOfBoundsException {
    Grid grid = needTable(table);
    needIndex(grid.hasLine(isColumn, k));
    draft.becomeLike(grid);
    draft.turnLine(isColumn, k);
    return settleChange(grid);
  }

  public int add(int table, boolean isColumn, int to, int from, int times)
      throws IndexOutOfBoundsException, IllegalArgumentException {
    Grid grid = needTable(table);
    needIndex(grid.hasLine(isColumn, to) && grid.hasLine(isColumn, from));
    needArgument(to != from && times >= -MOST_TIMES && times <= MOST_TIMES);
    draft.becomeLike(grid);
    draft.addLine(isColumn, to, from, times);
    return settleChange(grid);
  }

  public int widen(int table, boolean isColumn) throws IndexOutOfBoundsException {
    Grid grid = needTable(table);
    int lines = grid.countLines(isColumn);
    if (lines >= MOST_LINES) {
      return tellRefused();
    }
    draft.becomeLike(grid);
    grid.reshape(isColumn ? grid.rows : lines + 1, isColumn ? lines + 1 : grid.columns);
    grid.takeOver(draft);
    return tellDone(lines + 1);
  }

  public int drop(int table, boolean isColumn, int k) throws IndexOutOfBoundsException {
    Grid grid = needTable(table);
    needIndex(grid.hasLine(isColumn, k));
    int lines = grid.countLines(isColumn);
    if (lines <= 1) {
      return tellRefused();
    }
    draft.becomeLike(grid);
    for (int i = k; i < lines - 1; i++) {
      draft.exchangeLines(isColumn, i, i + 1);
    }
    grid.reshape(isColumn ? grid.rows : lines - 1, isColumn ? lines - 1 : grid.columns);
    grid.takeOver(draft);
    return tellDone(lines - 1);
  }

  public int sum(int one, int other, boolean isLess, int into) throws IndexOutOfBoundsException {
    Grid first = needTable(one);
    Grid second = needTable(other);
    Grid target = needTable(into);
    if (first.rows != second.rows || first.columns != second.columns) {
      return tellRefused();
    }
    draft.reshape(first.rows, first.columns);
    for (int i = 0; i < first.rows; i++) {
      for (int j = 0; j < first.columns; j++) {
        long more = second.get(i, j);
        draft.set(i, j, first.get(i, j) + (isLess ? -more : more));
      }
    }
    return settleForm(draft, target);
  }

  public int multiply(int one, int other, int into) throws IndexOutOfBoundsException {
    Grid first = needTable(one);
    Grid second = needTable(other);
    Grid target = needTable(into);
    if (first.columns != second.rows) {
      return tellRefused();
    }
    draft.becomeProduct(first, second);
    return settleForm(draft, target);
  }

  public int take(int table, int what, int into) throws IndexOutOfBoundsException, IllegalArgumentException {
    Grid grid = needTable(table);
    Grid target = needTable(into);
    needArgument(isForm(what));
    Grid form = findForm(grid, what);
    if (form == null) {
      return tellRefused();
    }
    return settleForm(form, target);
  }

  public int solve(int table, int other, int column, int into) throws IndexOutOfBoundsException {
    Grid grid = needTable(table);
    Grid given = needTable(other);
    Grid target = needTable(into);
    needIndex(given.hasLine(true, column));
    if (grid.rows != given.rows) {
      return tellRefused();
    }
    diagonalSteps.walk(grid);
    if (diagonalSteps.isGreat || !equation.divide(diagonalSteps, given, column)) {
      return tellRefused();
    }
    if (!equation.findSolution(diagonalSteps)) {
      return tellRefused();
    }
    return settleForm(equation.solution, target);
  }

  // ---- asked of one

  public int shape(int table, boolean isColumn) throws IndexOutOfBoundsException {
    return needTable(table).countLines(isColumn);
  }

  public int at(int table, int row, int column) throws IndexOutOfBoundsException {
    Grid grid = needTable(table);
    needIndex(grid.hasLine(false, row) && grid.hasLine(true, column));
    return (int) grid.get(row, column);
  }

  public String text(int table) throws IndexOutOfBoundsException {
    Grid grid = needTable(table);
    StringBuilder line = new StringBuilder();
    for (int i = 0; i < grid.rows; i++) {
      if (i > 0) {
        line.append('/');
      }
      for (int j = 0; j < grid.columns; j++) {
        if (j > 0) {
          line.append(' ');
        }
        line.append((int) grid.get(i, j));
      }
    }
    return line.toString();
  }

  public boolean isSame(int one, int other) throws IndexOutOfBoundsException {
    Grid first = needTable(one);
    Grid second = needTable(other);
    return first.isLike(second);
  }

  public int determinant(int table, int how)
      throws IndexOutOfBoundsException, IllegalArgumentException, IllegalStateException {
    Grid grid = needTable(table);
    needArgument(how >= 0 && how <= 2);
    needState(grid.rows == grid.columns);
    if (how == 0) {
      return (int) Determinants.byFirstRow(grid);
    }
    if (how == 1) {
      return (int) Determinants.bySequences(grid, 0, 0);
    }
    rowSteps.walk(grid);
    needState(!rowSteps.isGreat);
    return (int) rowSteps.findDeterminant();
  }

  public int minor(int table, int rows, int columns) throws IndexOutOfBoundsException, IllegalArgumentException {
    Grid grid = needTable(table);
    needArgument(rows >= 1 && rows < (1 << grid.rows) && columns >= 1 && columns < (1 << grid.columns));
    needArgument(Integer.bitCount(rows) == Integer.bitCount(columns));
    return (int) Determinants.ofRest(grid, rows, columns, 0);
  }

  public int divisor(int table, int k) throws IndexOutOfBoundsException, IllegalArgumentException {
    Grid grid = needTable(table);
    needArgument(k >= 0 && k <= grid.rows && k <= grid.columns);
    return (int) Determinants.findDivisor(grid, k);
  }

  public int rank(int table, int how) throws IndexOutOfBoundsException, IllegalArgumentException, IllegalStateException {
    Grid grid = needTable(table);
    needArgument(how == 0 || how == 1);
    if (how == 0) {
      return Determinants.findRank(grid);
    }
    rowSteps.walk(grid);
    needState(!rowSteps.isGreat);
    return rowSteps.countFilledRows();
  }

  public int told(int table, int what, int row, int column)
      throws IndexOutOfBoundsException, IllegalArgumentException, IllegalStateException {
    Grid grid = needTable(table);
    needArgument(isForm(what));
    int rows = what == RIGHT_CHANGE ? grid.columns : grid.rows;
    int columns = what == ROW_CHANGE || what == LEFT_CHANGE ? grid.rows : grid.columns;
    needArgument(row >= 0 && row < rows && column >= 0 && column < columns);
    Grid form = findForm(grid, what);
    if (form == null) {
      throw new IllegalStateException("the steps are great");
    }
    return (int) form.get(row, column);
  }

  public int change(int table, int what) throws IndexOutOfBoundsException, IllegalArgumentException, IllegalStateException {
    Grid grid = needTable(table);
    needArgument(what >= 0 && what <= 4);
    if (what == 0) {
      rowSteps.walk(grid);
      return rowSteps.isGreat ? 1 : 0;
    }
    if (what == 1) {
      diagonalSteps.walk(grid);
      return diagonalSteps.isGreat ? 1 : 0;
    }
    Grid form = findForm(grid, what == 2 ? ROW_CHANGE : what == 3 ? LEFT_CHANGE : RIGHT_CHANGE);
    if (form == null) {
      throw new IllegalStateException("the steps are great");
    }
    return (int) Determinants.byFirstRow(form);
  }

  // ---- equations, rests

  public boolean isSolvable(int table, int other, int column, int how)
      throws IndexOutOfBoundsException, IllegalArgumentException, IllegalStateException {
    Grid grid = needTable(table);
    Grid given = needTable(other);
    needIndex(given.hasLine(true, column));
    needArgument(grid.rows == given.rows && (how == 0 || how == 1));
    if (how == 0) {
      diagonalSteps.walk(grid);
      needState(!diagonalSteps.isGreat);
      return equation.divide(diagonalSteps, given, column);
    }
    draft.reshape(grid.rows, grid.columns + 1);
    draft.takeOver(grid);
    for (int i = 0; i < grid.rows; i++) {
      draft.set(i, grid.columns, given.get(i, column));
    }
    int rank = Determinants.findRank(grid);
    return Determinants.findRank(draft) == rank
        && Determinants.findDivisor(draft, rank) == Determinants.findDivisor(grid, rank);
  }

  public int restColumn(int table, int k, int row)
      throws IndexOutOfBoundsException, IllegalStateException, IllegalArgumentException {
    Grid grid = needTable(table);
    diagonalSteps.walk(grid);
    needState(!diagonalSteps.isGreat);
    int rank = diagonalSteps.countRank();
    needArgument(k >= 0 && k < grid.columns - rank && row >= 0 && row < grid.columns);
    return (int) diagonalSteps.right.get(row, rank + k);
  }

  public String rest(int table, int n) throws IndexOutOfBoundsException, IllegalStateException, IllegalArgumentException {
    Grid grid = needTable(table);
    needState(leavesRests(grid));
    long number = n;
    for (int c = grid.columns - 1; c >= 0; c--) {
      long whole = rowSteps.work.get(c, c);
      setRowNumber(c, remainder(number, whole));
      number = divideDown(number, whole);
    }
    needArgument(n >= 0 && number == 0);
    StringBuilder line = new StringBuilder();
    for (int c = 0; c < grid.columns; c++) {
      if (c > 0) {
        line.append(' ');
      }
      line.append((int) rowNumber(c));
    }
    return line.toString();
  }

  public int restOf(int table, int other, int row)
      throws IndexOutOfBoundsException, IllegalStateException, IllegalArgumentException {
    Grid grid = needTable(table);
    Grid given = needTable(other);
    needIndex(given.hasLine(false, row));
    needState(leavesRests(grid));
    needArgument(grid.columns == given.columns);
    for (int c = 0; c < grid.columns; c++) {
      setRowNumber(c, given.get(row, c));
    }
    long number = 0;
    for (int c = 0; c < grid.columns; c++) {
      long whole = rowSteps.work.get(c, c);
      long times = divideDown(rowNumber(c), whole);
      for (int j = c; j < grid.columns; j++) {
        setRowNumber(j, rowNumber(j) - times * rowSteps.work.get(c, j));
      }
      number = number * whole + rowNumber(c);
    }
    return (int) number;
  }

  // ---- the whole

  public int house(int what) throws IllegalArgumentException {
    needArgument(what >= 0 && what <= 3);
    return countHouse(what);
  }

  public int knock() {
    knocks++;
    return knocks;
  }

  public boolean isSound() {
    return isFirstSound();
  }

  public long digest() {
    long d = 8032;
    for (int i = 0; i < TABLES; i++) {
      d = tables[i].mix(d);
    }
    for (int what = 0; what <= 3; what++) {
      d = d * 31 + countHouse(what);
    }
    return d * 31 + (isFirstSound() ? 1 : 0);
  }

  // ---- what calls need, and how acts end

  private Grid needTable(int number) {
    if (number < 0 || number >= TABLES) {
      throw new IndexOutOfBoundsException("no such table");
    }
    return tables[number];
  }

  private static void needIndex(boolean isRight) {
    if (!isRight) {
      throw new IndexOutOfBoundsException("no such row or column");
    }
  }

  private static void needArgument(boolean isRight) {
    if (!isRight) {
      throw new IllegalArgumentException("not allowed here");
    }
  }

  private static void needState(boolean isRight) {
    if (!isRight) {
      throw new IllegalStateException("the table does not allow it");
    }
  }

  private static boolean isCount(int lines) {
    return lines >= 1 && lines <= MOST_LINES;
  }

  private static boolean isForm(int what) {
    return what >= STEPPED && what <= RIGHT_CHANGE;
  }

  private int tellDone(int answer) {
    acts++;
    return answer;
  }

  private int tellRefused() {
    refusals++;
    return REFUSED;
  }

  /** The draft is the table with a change: it becomes so, if all numbers are let. */
  private int settleChange(Grid grid) {
    if (!draft.isWithin(GREATEST_LET)) {
      return tellRefused();
    }
    int others = grid.countUnlike(draft);
    grid.becomeLike(draft);
    return tellDone(others);
  }

  private int settleForm(Grid form, Grid target) {
    if (!form.isWithin(GREATEST_LET)) {
      return tellRefused();
    }
    target.becomeLike(form);
    return tellDone(target.countFilled());
  }

  // ---- what several calls ask

  /** The form or change of that number; null if it is not told, as the steps are great. */
  private Grid findForm(Grid grid, int what) {
    if (what == STEPPED || what == ROW_CHANGE) {
      rowSteps.walk(grid);
      if (rowSteps.isGreat) {
        return null;
      }
      return what == STEPPED ? rowSteps.work : rowSteps.rowChange;
    }
    diagonalSteps.walk(grid);
    if (diagonalSteps.isGreat) {
      return null;
    }
    if (what == DIAGONAL) {
      return diagonalSteps.work;
    }
    return what == LEFT_CHANGE ? diagonalSteps.left : diagonalSteps.right;
  }

  /** Whether the table has rests; the stepped form stands in the row steps then. */
  private boolean leavesRests(Grid grid) {
    if (grid.rows != grid.columns || Determinants.byFirstRow(grid) == 0) {
      return false;
    }
    rowSteps.walk(grid);
    return !rowSteps.isGreat;
  }

  private long rowNumber(int place) {
    return place >= 0 && place < rowNumbers.length ? rowNumbers[place] : 0;
  }

  private void setRowNumber(int place, long number) {
    if (place >= 0 && place < rowNumbers.length) {
      rowNumbers[place] = number;
    }
  }

  private int countHouse(int what) {
    if (what == 0) {
      return acts;
    }
    if (what == 1) {
      return refusals;
    }
    return what == 2 ? knocks : countLikePairs();
  }

  private int countLikePairs() {
    int pairs = 0;
    for (int i = 0; i < TABLES; i++) {
      for (int j = i + 1; j < TABLES; j++) {
        if (tables[i].isLike(tables[j])) {
          pairs++;
        }
      }
    }
    return pairs;
  }

  private boolean isFirstSound() {
    Grid grid = tables[0];
    if (grid.rows > 3 || grid.columns > 3) {
      return true;
    }
    if (grid.rows == grid.columns && Determinants.byFirstRow(grid) != Determinants.bySequences(grid, 0, 0)) {
      return false;
    }
    rowSteps.walk(grid);
    if (!rowSteps.isGreat && !isSoundByRowSteps(grid)) {
      return false;
    }
    diagonalSteps.walk(grid);
    return diagonalSteps.isGreat || isSoundBySteps(grid);
  }

  private boolean isSoundByRowSteps(Grid grid) {
    check.becomeProduct(rowSteps.rowChange, grid);
    return check.isLike(rowSteps.work)
        && Determinants.findRank(grid) == rowSteps.countFilledRows()
        && (grid.rows != grid.columns || Determinants.byFirstRow(grid) == rowSteps.findDeterminant());
  }

  private boolean isSoundBySteps(Grid grid) {
    draft.becomeProduct(diagonalSteps.left, grid);
    check.becomeProduct(draft, diagonalSteps.right);
    if (!check.isLike(diagonalSteps.work)) {
      return false;
    }
    for (int k = 0; k < grid.rows && k < grid.columns; k++) {
      long before = Determinants.findDivisor(grid, k);
      if (before * diagonalSteps.work.get(k, k) != Determinants.findDivisor(grid, k + 1)) {
        return false;
      }
    }
    return true;
  }

  // ---- whole numbers

  private static long divideDown(long number, long by) {
    return by == 0 ? 0 : Math.floorDiv(number, by);
  }

  private static long remainder(long number, long by) {
    return by == 0 ? 0 : Math.floorMod(number, by);
  }

  /** 0 divides 0 alone. */
  private static boolean divides(long by, long number) {
    return by == 0 ? number == 0 : number % by == 0;
  }

  private static long greatestCommonDivisor(long one, long other) {
    long a = Math.abs(one);
    long b = Math.abs(other);
    for (int pass = 0; pass < MOST_PASSES && b != 0; pass++) {
      long left = a % b;
      a = b;
      b = left;
    }
    return a;
  }

  /** A table of numbers of any size; it never has more than four rows and five columns. */
  private static final class Grid {
    private final long[] cells = new long[MOST_LINES * WIDEST];
    private int rows = 1;
    private int columns = 1;

    long get(int row, int column) {
      if (row < 0 || row >= MOST_LINES || column < 0 || column >= WIDEST) {
        return 0;
      }
      return cells[row * WIDEST + column];
    }

    void set(int row, int column, long number) {
      if (row >= 0 && row < MOST_LINES && column >= 0 && column < WIDEST) {
        cells[row * WIDEST + column] = number;
      }
    }

    int countLines(boolean isColumn) {
      return isColumn ? columns : rows;
    }

    boolean hasLine(boolean isColumn, int k) {
      return k >= 0 && k < (isColumn ? columns : rows);
    }

    void reshape(int newRows, int newColumns) {
      rows = Math.max(1, Math.min(newRows, MOST_LINES));
      columns = Math.max(1, Math.min(newColumns, WIDEST));
      for (int i = 0; i < cells.length; i++) {
        cells[i] = 0;
      }
    }

    void becomeUnit(int size) {
      reshape(size, size);
      for (int k = 0; k < rows; k++) {
        set(k, k, 1);
      }
    }

    void becomeLike(Grid model) {
      rows = model.rows;
      columns = model.columns;
      for (int i = 0; i < cells.length && i < model.cells.length; i++) {
        cells[i] = model.cells[i];
      }
    }

    /** Takes the numbers at the places that both have. */
    void takeOver(Grid model) {
      for (int i = 0; i < rows && i < model.rows; i++) {
        for (int j = 0; j < columns && j < model.columns; j++) {
          set(i, j, model.get(i, j));
        }
      }
    }

    void becomeColumn(Grid model, int column) {
      reshape(model.rows, 1);
      for (int i = 0; i < rows; i++) {
        set(i, 0, model.get(i, column));
      }
    }

    /** Neither of the two may be this one. */
    void becomeProduct(Grid first, Grid second) {
      reshape(first.rows, second.columns);
      for (int i = 0; i < rows; i++) {
        for (int j = 0; j < columns; j++) {
          long total = 0;
          for (int k = 0; k < first.columns; k++) {
            total += first.get(i, k) * second.get(k, j);
          }
          set(i, j, total);
        }
      }
    }

    void exchangeLines(boolean isColumn, int one, int other) {
      int length = isColumn ? rows : columns;
      for (int k = 0; k < length; k++) {
        long kept = isColumn ? get(k, one) : get(one, k);
        if (isColumn) {
          set(k, one, get(k, other));
          set(k, other, kept);
        } else {
          set(one, k, get(other, k));
          set(other, k, kept);
        }
      }
    }

    void turnLine(boolean isColumn, int line) {
      int length = isColumn ? rows : columns;
      for (int k = 0; k < length; k++) {
        if (isColumn) {
          set(k, line, -get(k, line));
        } else {
          set(line, k, -get(line, k));
        }
      }
    }

    void addLine(boolean isColumn, int to, int from, long times) {
      int length = isColumn ? rows : columns;
      for (int k = 0; k < length; k++) {
        if (isColumn) {
          set(k, to, get(k, to) + times * get(k, from));
        } else {
          set(to, k, get(to, k) + times * get(from, k));
        }
      }
    }

    int countFilled() {
      int filled = 0;
      for (int i = 0; i < rows; i++) {
        for (int j = 0; j < columns; j++) {
          if (get(i, j) != 0) {
            filled++;
          }
        }
      }
      return filled;
    }

    /** At how many places another number stands than in a table of the same rows and columns. */
    int countUnlike(Grid model) {
      int others = 0;
      for (int i = 0; i < rows; i++) {
        for (int j = 0; j < columns; j++) {
          if (get(i, j) != model.get(i, j)) {
            others++;
          }
        }
      }
      return others;
    }

    boolean isLike(Grid model) {
      return rows == model.rows && columns == model.columns && countUnlike(model) == 0;
    }

    boolean isWithin(long greatest) {
      for (int i = 0; i < rows; i++) {
        for (int j = 0; j < columns; j++) {
          if (Math.abs(get(i, j)) > greatest) {
            return false;
          }
        }
      }
      return true;
    }

    long mix(long start) {
      long d = (start * 31 + rows) * 31 + columns;
      for (int i = 0; i < rows; i++) {
        for (int j = 0; j < columns; j++) {
          d = d * 31 + get(i, j);
        }
      }
      return d;
    }
  }

  /**
   * Determinants wrap around at 64 bits. Those that are told are small, so they are right even if what they are
   * added from is not.
   */
  private static final class Determinants {
    static long byFirstRow(Grid grid) {
      return ofRest(grid, (1 << grid.rows) - 1, (1 << grid.columns) - 1, 0);
    }

    /** By the first row that stays, from this one on; a set is the sum of 2^k over its k. */
    static long ofRest(Grid grid, int rowSet, int columnSet, int row) {
      if (row >= MOST_LINES) {
        return 1;
      }
      if ((rowSet >> row & 1) == 0) {
        return ofRest(grid, rowSet, columnSet, row + 1);
      }
      long total = 0;
      boolean isOdd = false;
      for (int j = 0; j < WIDEST; j++) {
        if ((columnSet >> j & 1) != 0) {
          long part = grid.get(row, j) * ofRest(grid, rowSet, columnSet & ~(1 << j), row + 1);
          total += isOdd ? -part : part;
          isOdd = !isOdd;
        }
      }
      return total;
    }

    /** The sum over all ends of a sequence, of which the columns of the used set stand ahead of this row. */
    static long bySequences(Grid grid, int row, int used) {
      if (row >= grid.rows || row >= MOST_LINES) {
        return 1;
      }
      long total = 0;
      for (int j = 0; j < grid.columns; j++) {
        if ((used >> j & 1) == 0) {
          long part = grid.get(row, j) * bySequences(grid, row + 1, used | 1 << j);
          boolean isOdd = Integer.bitCount(used >> (j + 1)) % 2 != 0;
          total += isOdd ? -part : part;
        }
      }
      return total;
    }

    static long findDivisor(Grid grid, int k) {
      long common = 0;
      for (int rowSet = 0; rowSet < (1 << grid.rows); rowSet++) {
        boolean hasRows = Integer.bitCount(rowSet) == k;
        for (int columnSet = 0; hasRows && columnSet < (1 << grid.columns); columnSet++) {
          if (Integer.bitCount(columnSet) == k) {
            common = greatestCommonDivisor(common, ofRest(grid, rowSet, columnSet, 0));
          }
        }
      }
      return common;
    }

    static int findRank(Grid grid) {
      int rank = 0;
      for (int k = 1; k <= grid.rows && k <= grid.columns; k++) {
        if (findDivisor(grid, k) != 0) {
          rank = k;
        }
      }
      return rank;
    }
  }

  /** The way to the stepped form. Once the steps are great it ends, so that no number leaves 64 bits. */
  private static final class RowSteps {
    private final Grid work = new Grid();
    private final Grid rowChange = new Grid();
    private boolean isGreat;

    void walk(Grid table) {
      work.becomeLike(table);
      rowChange.becomeUnit(table.rows);
      isGreat = false;
      int r = 0;
      for (int c = 0; c < work.columns && r < work.rows && !isGreat; c++) {
        if (clearColumn(r, c)) {
          r++;
        }
      }
    }

    /** Whether the column got a number at the row r. */
    private boolean clearColumn(int r, int c) {
      for (int pass = 0; pass < MOST_PASSES && !isGreat; pass++) {
        int least = findLeastRow(r, c);
        if (least < 0) {
          return false;
        }
        bring(least, r, c);
        for (int i = r + 1; i < work.rows && !isGreat; i++) {
          takeOff(i, r, c);
        }
        if (!isGreat && isClearBelow(r, c)) {
          for (int i = 0; i < r && !isGreat; i++) {
            takeOff(i, r, c);
          }
          return true;
        }
      }
      return false;
    }

    private int findLeastRow(int r, int c) {
      int least = -1;
      for (int i = r; i < work.rows; i++) {
        long size = Math.abs(work.get(i, c));
        if (size != 0 && (least < 0 || size < Math.abs(work.get(least, c)))) {
          least = i;
        }
      }
      return least;
    }

    private void bring(int least, int r, int c) {
      if (least != r) {
        work.exchangeLines(false, least, r);
        rowChange.exchangeLines(false, least, r);
      }
      if (work.get(r, c) < 0) {
        work.turnLine(false, r);
        rowChange.turnLine(false, r);
      }
    }

    private void takeOff(int i, int r, int c) {
      long times = divideDown(work.get(i, c), work.get(r, c));
      work.addLine(false, i, r, -times);
      rowChange.addLine(false, i, r, -times);
      isGreat = !work.isWithin(GREAT_FROM) || !rowChange.isWithin(GREAT_FROM);
    }

    private boolean isClearBelow(int r, int c) {
      for (int i = r + 1; i < work.rows; i++) {
        if (work.get(i, c) != 0) {
          return false;
        }
      }
      return true;
    }

    int countFilledRows() {
      int filled = 0;
      for (int i = 0; i < work.rows; i++) {
        boolean isFilled = false;
        for (int j = 0; j < work.columns; j++) {
          isFilled = isFilled || work.get(i, j) != 0;
        }
        filled += isFilled ? 1 : 0;
      }
      return filled;
    }

    long findDeterminant() {
      long product = Determinants.byFirstRow(rowChange);
      for (int k = 0; k < work.rows; k++) {
        product *= work.get(k, k);
      }
      return product;
    }
  }

  /** The way to the diagonal; great as in the row steps. */
  private static final class DiagonalSteps {
    private final Grid work = new Grid();
    private final Grid left = new Grid();
    private final Grid right = new Grid();
    private boolean isGreat;

    void walk(Grid table) {
      work.becomeLike(table);
      left.becomeUnit(table.rows);
      right.becomeUnit(table.columns);
      isGreat = false;
      boolean goesOn = true;
      for (int t = 0; t < work.rows && t < work.columns && goesOn && !isGreat; t++) {
        goesOn = clearCross(t);
      }
    }

    /** Whether a number got to t, t, and with it alone the row and the column. */
    private boolean clearCross(int t) {
      for (int pass = 0; pass < MOST_PASSES && !isGreat; pass++) {
        int least = findLeastPlace(t);
        if (least < 0) {
          return false;
        }
        bring(least / WIDEST, least % WIDEST, t);
        for (int i = t + 1; i < work.rows && !isGreat; i++) {
          addRow(i, t, -divideDown(work.get(i, t), work.get(t, t)));
        }
        for (int j = t + 1; j < work.columns && !isGreat; j++) {
          addColumn(j, t, -divideDown(work.get(t, j), work.get(t, t)));
        }
        if (!isGreat && isCrossClear(t)) {
          int row = findUndividedRow(t);
          if (row < 0) {
            return true;
          }
          addRow(t, row, 1);
        }
      }
      return false;
    }

    /** The place is its row by WIDEST and its column. */
    private int findLeastPlace(int t) {
      int least = -1;
      long leastSize = 0;
      for (int i = t; i < work.rows; i++) {
        for (int j = t; j < work.columns; j++) {
          long size = Math.abs(work.get(i, j));
          if (size != 0 && (least < 0 || size < leastSize)) {
            least = i * WIDEST + j;
            leastSize = size;
          }
        }
      }
      return least;
    }

    private void bring(int row, int column, int t) {
      if (row != t) {
        work.exchangeLines(false, row, t);
        left.exchangeLines(false, row, t);
      }
      if (column != t) {
        work.exchangeLines(true, column, t);
        right.exchangeLines(true, column, t);
      }
      if (work.get(t, t) < 0) {
        work.turnLine(false, t);
        left.turnLine(false, t);
      }
    }

    private void addRow(int to, int from, long times) {
      work.addLine(false, to, from, times);
      left.addLine(false, to, from, times);
      isGreat = !work.isWithin(GREAT_FROM) || !left.isWithin(GREAT_FROM);
    }

    private void addColumn(int to, int from, long times) {
      work.addLine(true, to, from, times);
      right.addLine(true, to, from, times);
      isGreat = !work.isWithin(GREAT_FROM) || !right.isWithin(GREAT_FROM);
    }

    private boolean isCrossClear(int t) {
      for (int i = t + 1; i < work.rows; i++) {
        if (work.get(i, t) != 0) {
          return false;
        }
      }
      for (int j = t + 1; j < work.columns; j++) {
        if (work.get(t, j) != 0) {
          return false;
        }
      }
      return true;
    }

    private int findUndividedRow(int t) {
      for (int i = t + 1; i < work.rows; i++) {
        for (int j = t + 1; j < work.columns; j++) {
          if (!divides(work.get(t, t), work.get(i, j))) {
            return i;
          }
        }
      }
      return -1;
    }

    int countRank() {
      int rank = 0;
      for (int k = 0; k < work.rows && k < work.columns; k++) {
        if (work.get(k, k) != 0) {
          rank++;
        }
      }
      return rank;
    }
  }

  /** A table with a column that its product with a solution should be, by steps that are not great. */
  private static final class Equation {
    private final Grid given = new Grid();
    private final Grid aim = new Grid();
    private final Grid shares = new Grid();
    private final Grid solution = new Grid();

    /** Whether the divisions go; the shares stand then. */
    boolean divide(DiagonalSteps steps, Grid other, int column) {
      given.becomeColumn(other, column);
      aim.becomeProduct(steps.left, given);
      shares.reshape(steps.work.columns, 1);
      int rank = steps.countRank();
      for (int k = 0; k < aim.rows; k++) {
        long by = k < rank ? steps.work.get(k, k) : 0;
        if (!divides(by, aim.get(k, 0))) {
          return false;
        }
        if (k < rank) {
          shares.set(k, 0, divideDown(aim.get(k, 0), by));
        }
      }
      return true;
    }

    /** Whether the solution of these shares is told: not if it is great. */
    boolean findSolution(DiagonalSteps steps) {
      if (!shares.isWithin(GREAT_FROM)) {
        return false;
      }
      solution.becomeProduct(steps.right, shares);
      return solution.isWithin(GREAT_FROM);
    }
  }
}
