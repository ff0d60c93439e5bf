import java.math.BigInteger;
import java.util.ArrayList;
import java.util.List;

/**
 * The document once more, word by word and without a limit of size, on lists of BigIntegers: what the class answers
 * is compared with it. An answer is a text, an exception "throws." and its name.
 */
final class Model {
  private static final BigInteger GREAT = BigInteger.valueOf(1000000000L);
  private static final String INDEX = "throws.IndexOutOfBoundsException";
  private static final String ARGUMENT = "throws.IllegalArgumentException";
  private static final String STATE = "throws.IllegalStateException";

  private final BigInteger[][][] tables = new BigInteger[4][][];
  private int acts;
  private int refused;
  private int knocks;

  Model() {
    for (int i = 0; i < 4; i++) {
      tables[i] = zeros(1, 1);
    }
  }

  // ---- tables as values

  private static BigInteger big(long number) {
    return BigInteger.valueOf(number);
  }

  static BigInteger[][] zeros(int rows, int columns) {
    BigInteger[][] t = new BigInteger[rows][columns];
    for (BigInteger[] row : t) {
      java.util.Arrays.fill(row, BigInteger.ZERO);
    }
    return t;
  }

  static BigInteger[][] unitOf(int size) {
    BigInteger[][] t = zeros(size, size);
    for (int k = 0; k < size; k++) {
      t[k][k] = BigInteger.ONE;
    }
    return t;
  }

  static BigInteger[][] clone(BigInteger[][] t) {
    BigInteger[][] c = new BigInteger[t.length][];
    for (int i = 0; i < t.length; i++) {
      c[i] = t[i].clone();
    }
    return c;
  }

  static BigInteger[][] flipped(BigInteger[][] t) {
    BigInteger[][] f = zeros(t[0].length, t.length);
    for (int i = 0; i < t.length; i++) {
      for (int j = 0; j < t[0].length; j++) {
        f[j][i] = t[i][j];
      }
    }
    return f;
  }

  static BigInteger[][] product(BigInteger[][] a, BigInteger[][] b) {
    BigInteger[][] p = zeros(a.length, b[0].length);
    for (int i = 0; i < a.length; i++) {
      for (int j = 0; j < b[0].length; j++) {
        for (int k = 0; k < b.length; k++) {
          p[i][j] = p[i][j].add(a[i][k].multiply(b[k][j]));
        }
      }
    }
    return p;
  }

  static int filled(BigInteger[][] t) {
    int n = 0;
    for (BigInteger[] row : t) {
      for (BigInteger x : row) {
        n += x.signum() != 0 ? 1 : 0;
      }
    }
    return n;
  }

  static boolean alike(BigInteger[][] a, BigInteger[][] b) {
    return java.util.Arrays.deepEquals(a, b);
  }

  static boolean within(BigInteger[][] t, BigInteger greatest) {
    for (BigInteger[] row : t) {
      for (BigInteger x : row) {
        if (x.abs().compareTo(greatest) > 0) {
          return false;
        }
      }
    }
    return true;
  }

  static BigInteger down(BigInteger a, BigInteger b) {
    BigInteger[] q = a.divideAndRemainder(b);
    return q[1].signum() != 0 && q[1].signum() != b.signum() ? q[0].subtract(BigInteger.ONE) : q[0];
  }

  static BigInteger[][] part(BigInteger[][] t, List<Integer> rows, List<Integer> columns) {
    BigInteger[][] p = zeros(rows.size(), columns.size());
    for (int i = 0; i < rows.size(); i++) {
      for (int j = 0; j < columns.size(); j++) {
        p[i][j] = t[rows.get(i)][columns.get(j)];
      }
    }
    return p;
  }

  static BigInteger det(BigInteger[][] t) {
    if (t.length == 1) {
      return t[0][0];
    }
    BigInteger d = BigInteger.ZERO;
    for (int j = 0; j < t.length; j++) {
      List<Integer> rows = new ArrayList<>();
      List<Integer> columns = new ArrayList<>();
      for (int k = 0; k < t.length; k++) {
        if (k > 0) {
          rows.add(k);
        }
        if (k != j) {
          columns.add(k);
        }
      }
      BigInteger x = t[0][j].multiply(det(part(t, rows, columns)));
      d = j % 2 == 0 ? d.add(x) : d.subtract(x);
    }
    return d;
  }

  static void choose(int from, int of, int k, List<Integer> taken, List<List<Integer>> all) {
    if (taken.size() == k) {
      all.add(new ArrayList<>(taken));
      return;
    }
    for (int i = from; i < of; i++) {
      taken.add(i);
      choose(i + 1, of, k, taken, all);
      taken.remove(taken.size() - 1);
    }
  }

  static BigInteger divisorOf(BigInteger[][] t, int k) {
    if (k == 0) {
      return BigInteger.ONE;
    }
    List<List<Integer>> rows = new ArrayList<>();
    List<List<Integer>> columns = new ArrayList<>();
    choose(0, t.length, k, new ArrayList<>(), rows);
    choose(0, t[0].length, k, new ArrayList<>(), columns);
    BigInteger g = BigInteger.ZERO;
    for (List<Integer> r : rows) {
      for (List<Integer> c : columns) {
        g = g.gcd(det(part(t, r, c)));
      }
    }
    return g;
  }

  static int rankOf(BigInteger[][] t) {
    int rank = 0;
    for (int k = 0; k <= Math.min(t.length, t[0].length); k++) {
      if (divisorOf(t, k).signum() != 0) {
        rank = k;
      }
    }
    return rank;
  }

  // ---- steps

  /** W with what the changes of rows (and of columns) make of unit tables. */
  static final class Walk {
    BigInteger[][] w;
    BigInteger[][] rows;
    BigInteger[][] columns;
    boolean great;
    int passes;

    Walk(BigInteger[][] t) {
      w = Model.clone(t);
      rows = unitOf(t.length);
      columns = unitOf(t[0].length);
    }

    void look() {
      great = great || !within(w, GREAT) || !within(rows, GREAT) || !within(columns, GREAT);
    }

    void exchangeRows(int a, int b) {
      for (BigInteger[][] t : new BigInteger[][][] {w, rows}) {
        BigInteger[] kept = t[a];
        t[a] = t[b];
        t[b] = kept;
      }
    }

    void exchangeColumns(int a, int b) {
      for (BigInteger[][] t : new BigInteger[][][] {w, columns}) {
        for (BigInteger[] row : t) {
          BigInteger kept = row[a];
          row[a] = row[b];
          row[b] = kept;
        }
      }
    }

    void turnRow(int a) {
      for (BigInteger[][] t : new BigInteger[][][] {w, rows}) {
        for (int j = 0; j < t[a].length; j++) {
          t[a][j] = t[a][j].negate();
        }
      }
    }

    void addRow(int to, int from, BigInteger times) {
      for (BigInteger[][] t : new BigInteger[][][] {w, rows}) {
        for (int j = 0; j < t[to].length; j++) {
          t[to][j] = t[to][j].add(times.multiply(t[from][j]));
        }
      }
      look();
    }

    void addColumn(int to, int from, BigInteger times) {
      for (BigInteger[][] t : new BigInteger[][][] {w, columns}) {
        for (BigInteger[] row : t) {
          row[to] = row[to].add(times.multiply(row[from]));
        }
      }
      look();
    }
  }

  static Walk rowSteps(BigInteger[][] t) {
    Walk k = new Walk(t);
    int r = 0;
    for (int c = 0; c < t[0].length && r < t.length; c++) {
      while (true) {
        int best = -1;
        for (int i = r; i < t.length; i++) {
          if (k.w[i][c].signum() != 0 && (best < 0 || k.w[i][c].abs().compareTo(k.w[best][c].abs()) < 0)) {
            best = i;
          }
        }
        if (best < 0) {
          break;
        }
        k.passes++;
        if (best != r) {
          k.exchangeRows(best, r);
        }
        if (k.w[r][c].signum() < 0) {
          k.turnRow(r);
        }
        boolean left = false;
        for (int i = r + 1; i < t.length; i++) {
          k.addRow(i, r, down(k.w[i][c], k.w[r][c]).negate());
          left = left || k.w[i][c].signum() != 0;
        }
        if (left) {
          continue;
        }
        for (int i = 0; i < r; i++) {
          k.addRow(i, r, down(k.w[i][c], k.w[r][c]).negate());
        }
        r++;
        break;
      }
    }
    return k;
  }

  static Walk steps(BigInteger[][] t) {
    Walk k = new Walk(t);
    int rows = t.length;
    int columns = t[0].length;
    for (int s = 0; s < Math.min(rows, columns); s++) {
      boolean again = true;
      while (again) {
        int bi = -1;
        int bj = -1;
        for (int i = s; i < rows; i++) {
          for (int j = s; j < columns; j++) {
            if (k.w[i][j].signum() != 0 && (bi < 0 || k.w[i][j].abs().compareTo(k.w[bi][bj].abs()) < 0)) {
              bi = i;
              bj = j;
            }
          }
        }
        if (bi < 0) {
          return k;
        }
        k.passes++;
        if (bi != s) {
          k.exchangeRows(bi, s);
        }
        if (bj != s) {
          k.exchangeColumns(bj, s);
        }
        if (k.w[s][s].signum() < 0) {
          k.turnRow(s);
        }
        for (int i = s + 1; i < rows; i++) {
          k.addRow(i, s, down(k.w[i][s], k.w[s][s]).negate());
        }
        for (int j = s + 1; j < columns; j++) {
          k.addColumn(j, s, down(k.w[s][j], k.w[s][s]).negate());
        }
        boolean alone = true;
        for (int i = 0; i < rows; i++) {
          alone = alone && (i == s || k.w[i][s].signum() == 0);
        }
        for (int j = 0; j < columns; j++) {
          alone = alone && (j == s || k.w[s][j].signum() == 0);
        }
        if (!alone) {
          continue;
        }
        again = false;
        for (int i = s + 1; i < rows && !again; i++) {
          for (int j = s + 1; j < columns && !again; j++) {
            if (k.w[i][j].mod(k.w[s][s]).signum() != 0) {
              k.addRow(s, i, BigInteger.ONE);
              again = true;
            }
          }
        }
      }
    }
    return k;
  }

  static BigInteger[][] form(BigInteger[][] t, int what) {
    Walk k = what <= 1 ? rowSteps(t) : steps(t);
    if (k.great) {
      return null;
    }
    return what == 0 || what == 2 ? k.w : what == 4 ? k.columns : k.rows;
  }

  /** The solution; null if there is none; with a last row more if it is great but there is one. */
  private static BigInteger[][] solution(BigInteger[][] t, BigInteger[][] other, int column, boolean[] great) {
    Walk k = steps(t);
    great[0] = k.great;
    if (k.great) {
      return null;
    }
    BigInteger[][] given = zeros(t.length, 1);
    for (int i = 0; i < t.length; i++) {
      given[i][0] = other[i][column];
    }
    BigInteger[][] b = product(k.rows, given);
    BigInteger[][] y = zeros(t[0].length, 1);
    int rank = rankOf(t);
    for (int i = 0; i < b.length; i++) {
      if (i >= rank) {
        if (b[i][0].signum() != 0) {
          return null;
        }
        continue;
      }
      if (b[i][0].mod(k.w[i][i]).signum() != 0) {
        return null;
      }
      y[i][0] = b[i][0].divide(k.w[i][i]);
    }
    BigInteger[][] x = product(k.columns, y);
    great[0] = !within(y, GREAT) || !within(x, GREAT);
    return x;
  }

  private BigInteger[][] stepped(int table) {
    BigInteger[][] t = tables[table];
    if (t.length != t[0].length || det(t).signum() == 0) {
      return null;
    }
    Walk k = rowSteps(t);
    return k.great ? null : k.w;
  }

  // ---- the calls

  private static boolean noTable(int... all) {
    for (int t : all) {
      if (t < 0 || t > 3) {
        return true;
      }
    }
    return false;
  }

  int lines(int table, boolean isColumn) {
    return isColumn ? tables[table][0].length : tables[table].length;
  }

  private boolean noLine(int table, boolean isColumn, int... all) {
    for (int k : all) {
      if (k < 0 || k >= lines(table, isColumn)) {
        return true;
      }
    }
    return false;
  }

  private String done(int answer) {
    acts++;
    return "" + answer;
  }

  private String refuse() {
    refused++;
    return "-9";
  }

  private String settle(int into, BigInteger[][] t) {
    if (!within(t, big(20))) {
      return refuse();
    }
    tables[into] = clone(t);
    return done(filled(t));
  }

  private String settleChange(int table, BigInteger[][] t) {
    if (!within(t, big(20))) {
      return refuse();
    }
    int others = 0;
    for (int i = 0; i < t.length; i++) {
      for (int j = 0; j < t[0].length; j++) {
        others += t[i][j].equals(tables[table][i][j]) ? 0 : 1;
      }
    }
    tables[table] = t;
    return done(others);
  }

  /** One call: its name's place in NAMES, and up to five whole numbers (a boolean is 0 or 1). */
  static final String[] NAMES = {
    "make", "unit", "put", "sow", "copy", "swap", "flip", "exchange", "turn", "add", "widen", "drop", "sum",
    "multiply", "take", "solve", "shape", "at", "text", "isSame", "determinant", "minor", "divisor", "rank", "told",
    "change", "isSolvable", "restColumn", "rest", "restOf", "house", "knock", "isSound", "digest"
  };

  String call(String name, int a, int b, int c, int d, int e) {
    switch (name) {
      case "make":
        return noTable(a) ? INDEX : b < 1 || b > 4 || c < 1 || c > 4 ? ARGUMENT : reset(a, zeros(b, c));
      case "unit":
        return noTable(a) ? INDEX : b < 1 || b > 4 ? ARGUMENT : reset(a, unitOf(b));
      case "put":
        return put(a, b, c, d);
      case "sow":
        return sow(a, b, c);
      case "copy":
        return copy(a, b);
      case "swap":
        return swap(a, b);
      case "flip":
        if (noTable(a)) {
          return INDEX;
        }
        tables[a] = flipped(tables[a]);
        return done(tables[a].length);
      case "exchange":
      case "turn":
      case "add":
        return lines(name, a, b != 0, c, d, e);
      case "widen":
      case "drop":
        return count(name, a, b != 0, c);
      case "sum":
        return sum(a, b, c != 0, d);
      case "multiply":
        if (noTable(a, b, c)) {
          return INDEX;
        }
        return tables[a][0].length != tables[b].length ? refuse() : settle(c, product(tables[a], tables[b]));
      case "take":
        if (noTable(a, c)) {
          return INDEX;
        }
        if (b < 0 || b > 4) {
          return ARGUMENT;
        }
        return form(tables[a], b) == null ? refuse() : settle(c, form(tables[a], b));
      case "solve":
        return solve(a, b, c, d);
      case "knock":
        return "" + ++knocks;
      case "house":
        return a < 0 || a > 3 ? ARGUMENT : "" + house(a);
      case "isSound":
        return "true";
      case "digest":
        return "" + digest();
      default:
        return ask(name, a, b, c, d);
    }
  }

  private String reset(int table, BigInteger[][] t) {
    int had = filled(tables[table]);
    tables[table] = t;
    return done(had);
  }

  private String put(int a, int row, int column, int number) {
    if (noTable(a) || noLine(a, false, row) || noLine(a, true, column)) {
      return INDEX;
    }
    if (number < -20 || number > 20) {
      return ARGUMENT;
    }
    boolean other = !tables[a][row][column].equals(big(number));
    tables[a][row][column] = big(number);
    return done(other ? 1 : 0);
  }

  private String sow(int a, int seed, int wide) {
    if (noTable(a)) {
      return INDEX;
    }
    if (seed < 0 || seed > 65535 || wide < 0 || wide > 20) {
      return ARGUMENT;
    }
    long x = seed;
    int none = 0;
    for (int i = 0; i < tables[a].length; i++) {
      for (int j = 0; j < tables[a][0].length; j++) {
        x = (x * 25173L + 13849L) % 65536L;
        long number = (x / 64) % (2L * wide + 1) - wide;
        none += number == 0 ? 1 : 0;
        tables[a][i][j] = big(number);
      }
    }
    return done(none);
  }

  private String copy(int from, int into) {
    if (noTable(from, into)) {
      return INDEX;
    }
    boolean other = !alike(tables[from], tables[into]);
    tables[into] = clone(tables[from]);
    return done(other ? 1 : 0);
  }

  private String swap(int one, int other) {
    if (noTable(one, other)) {
      return INDEX;
    }
    boolean unlike = !alike(tables[one], tables[other]);
    BigInteger[][] kept = tables[one];
    tables[one] = tables[other];
    tables[other] = kept;
    return done(unlike ? 1 : 0);
  }

  private String lines(String name, int a, boolean isColumn, int c, int d, int e) {
    if (noTable(a) || noLine(a, isColumn, c) || (!name.equals("turn") && noLine(a, isColumn, d))) {
      return INDEX;
    }
    if (name.equals("add") && (c == d || e < -20 || e > 20)) {
      return ARGUMENT;
    }
    Walk k = new Walk(isColumn ? flipped(tables[a]) : tables[a]);
    if (name.equals("exchange")) {
      k.exchangeRows(c, d);
    } else if (name.equals("turn")) {
      k.turnRow(c);
    } else {
      k.addRow(c, d, big(e));
    }
    return settleChange(a, isColumn ? flipped(k.w) : k.w);
  }

  private String count(String name, int a, boolean isColumn, int line) {
    if (noTable(a) || (name.equals("drop") && noLine(a, isColumn, line))) {
      return INDEX;
    }
    List<BigInteger[]> rows = new ArrayList<>();
    for (BigInteger[] row : isColumn ? flipped(tables[a]) : tables[a]) {
      rows.add(row.clone());
    }
    if (rows.size() == (name.equals("drop") ? 1 : 4)) {
      return refuse();
    }
    if (name.equals("drop")) {
      rows.remove(line);
    } else {
      rows.add(zeros(1, rows.get(0).length)[0]);
    }
    BigInteger[][] t = rows.toArray(new BigInteger[0][]);
    tables[a] = isColumn ? flipped(t) : t;
    return done(rows.size());
  }

  private String sum(int one, int other, boolean isLess, int into) {
    if (noTable(one, other, into)) {
      return INDEX;
    }
    BigInteger[][] x = tables[one];
    BigInteger[][] y = tables[other];
    if (x.length != y.length || x[0].length != y[0].length) {
      return refuse();
    }
    BigInteger[][] t = zeros(x.length, x[0].length);
    for (int i = 0; i < x.length; i++) {
      for (int j = 0; j < x[0].length; j++) {
        t[i][j] = isLess ? x[i][j].subtract(y[i][j]) : x[i][j].add(y[i][j]);
      }
    }
    return settle(into, t);
  }

  private String solve(int a, int other, int column, int into) {
    if (noTable(a, other, into) || noLine(other, true, column)) {
      return INDEX;
    }
    if (tables[a].length != tables[other].length) {
      return refuse();
    }
    boolean[] great = new boolean[1];
    BigInteger[][] x = solution(tables[a], tables[other], column, great);
    return great[0] || x == null ? refuse() : settle(into, x);
  }

  private long house(int what) {
    int pairs = 0;
    for (int i = 0; i < 4; i++) {
      for (int j = 0; j < i; j++) {
        pairs += alike(tables[i], tables[j]) ? 1 : 0;
      }
    }
    return new int[] {acts, refused, knocks, pairs}[what];
  }

  private long digest() {
    long d = 8032;
    for (BigInteger[][] t : tables) {
      d = d * 31 + t.length;
      d = d * 31 + t[0].length;
      for (BigInteger[] row : t) {
        for (BigInteger x : row) {
          d = d * 31 + x.longValueExact();
        }
      }
    }
    for (int i = 0; i < 4; i++) {
      d = d * 31 + house(i);
    }
    return d * 31 + 1;
  }

  private String ask(String name, int a, int b, int c, int d) {
    if (noTable(a)) {
      return INDEX;
    }
    BigInteger[][] t = tables[a];
    switch (name) {
      case "shape":
        return "" + (b != 0 ? t[0].length : t.length);
      case "at":
        return noLine(a, false, b) || noLine(a, true, c) ? INDEX : "" + t[b][c];
      case "text":
        return text(t);
      case "isSame":
        return noTable(b) ? INDEX : "" + alike(t, tables[b]);
      case "determinant":
        return determinant(t, b);
      case "minor":
        return minor(t, b, c);
      case "divisor":
        return b < 0 || b > Math.min(t.length, t[0].length) ? ARGUMENT : "" + divisorOf(t, b);
      case "rank":
        if (b != 0 && b != 1) {
          return ARGUMENT;
        }
        return b == 1 && rowSteps(t).great ? STATE : "" + rankOf(t);
      case "told":
        return told(t, b, c, d);
      case "change":
        return change(t, b);
      case "isSolvable":
        return isSolvable(a, b, c, d);
      case "restColumn":
        return restColumn(t, b, c);
      case "rest":
        return rest(a, b);
      case "restOf":
        return restOf(a, b, c);
      default:
        throw new AssertionError(name);
    }
  }

  private static String text(BigInteger[][] t) {
    List<String> rows = new ArrayList<>();
    for (BigInteger[] row : t) {
      rows.add(join(row));
    }
    return String.join("/", rows);
  }

  private static String join(BigInteger[] row) {
    List<String> all = new ArrayList<>();
    for (BigInteger x : row) {
      all.add(x.toString());
    }
    return String.join(" ", all);
  }

  private static String determinant(BigInteger[][] t, int how) {
    if (how < 0 || how > 2) {
      return ARGUMENT;
    }
    return t.length != t[0].length || (how == 2 && rowSteps(t).great) ? STATE : "" + det(t);
  }

  private static List<Integer> members(int set, int of) {
    if (set < 1 || set >= 1 << of) {
      return null;
    }
    List<Integer> all = new ArrayList<>();
    for (int k = 0; k < of; k++) {
      if ((set & 1 << k) != 0) {
        all.add(k);
      }
    }
    return all;
  }

  private static String minor(BigInteger[][] t, int rows, int columns) {
    List<Integer> r = members(rows, t.length);
    List<Integer> c = members(columns, t[0].length);
    return r == null || c == null || r.size() != c.size() ? ARGUMENT : "" + det(part(t, r, c));
  }

  private static String told(BigInteger[][] t, int what, int row, int column) {
    if (what < 0 || what > 4) {
      return ARGUMENT;
    }
    int rows = what == 4 ? t[0].length : t.length;
    int columns = what == 1 || what == 3 ? t.length : t[0].length;
    if (row < 0 || row >= rows || column < 0 || column >= columns) {
      return ARGUMENT;
    }
    BigInteger[][] form = form(t, what);
    return form == null ? STATE : "" + form[row][column];
  }

  private static String change(BigInteger[][] t, int what) {
    if (what < 0 || what > 4) {
      return ARGUMENT;
    }
    if (what < 2) {
      return (what == 0 ? rowSteps(t) : steps(t)).great ? "1" : "0";
    }
    BigInteger[][] form = form(t, what == 2 ? 1 : what);
    return form == null ? STATE : "" + det(form);
  }

  private String isSolvable(int a, int other, int column, int how) {
    if (noTable(other) || noLine(other, true, column)) {
      return INDEX;
    }
    BigInteger[][] t = tables[a];
    BigInteger[][] o = tables[other];
    if (t.length != o.length || how < 0 || how > 1) {
      return ARGUMENT;
    }
    if (how == 0) {
      boolean[] great = new boolean[1];
      BigInteger[][] x = solution(t, o, column, great);
      return steps(t).great ? STATE : "" + (x != null);
    }
    BigInteger[][] wide = zeros(t.length, t[0].length + 1);
    for (int i = 0; i < t.length; i++) {
      System.arraycopy(t[i], 0, wide[i], 0, t[i].length);
      wide[i][t[i].length] = o[i][column];
    }
    int rank = rankOf(t);
    return "" + (rankOf(wide) == rank && divisorOf(wide, rank).equals(divisorOf(t, rank)));
  }

  private static String restColumn(BigInteger[][] t, int k, int row) {
    Walk walk = steps(t);
    if (walk.great) {
      return STATE;
    }
    int rank = rankOf(t);
    return k < 0 || k >= t[0].length - rank || row < 0 || row >= t[0].length ? ARGUMENT : "" + walk.columns[row][rank + k];
  }

  private String rest(int a, int n) {
    BigInteger[][] h = stepped(a);
    if (h == null) {
      return STATE;
    }
    BigInteger left = big(n);
    BigInteger[] row = new BigInteger[h.length];
    for (int c = h.length - 1; c >= 0; c--) {
      row[c] = left.mod(h[c][c]);
      left = left.divide(h[c][c]);
    }
    return n < 0 || left.signum() != 0 ? ARGUMENT : join(row);
  }

  private String restOf(int a, int other, int line) {
    if (noTable(other) || noLine(other, false, line)) {
      return INDEX;
    }
    BigInteger[][] h = stepped(a);
    if (h == null) {
      return STATE;
    }
    if (tables[other][0].length != h.length) {
      return ARGUMENT;
    }
    BigInteger[] row = tables[other][line].clone();
    BigInteger number = BigInteger.ZERO;
    for (int c = 0; c < h.length; c++) {
      BigInteger q = down(row[c], h[c][c]);
      for (int j = 0; j < h.length; j++) {
        row[j] = row[j].subtract(q.multiply(h[c][j]));
      }
      number = number.multiply(h[c][c]).add(row[c]);
    }
    return "" + number;
  }
}
