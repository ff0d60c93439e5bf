import java.util.Random;

/** Long runs of calls, each answer compared with the model; the seeds are fixed, so each run is the same again. */
public final class ModelTest {
  private static final int RUNS = 1500;
  /** With digest() as the last one, as many as the document tells of. */
  private static final int CALLS = 511;

  private final Random random;
  private final Gridmender x = new Gridmender();
  private final Model model = new Model();
  private final Checks checks;
  private final int span;

  private ModelTest(int run, Checks checks) {
    random = new Random(run);
    this.checks = checks;
    span = run % 4 == 0 ? 3 : 20;
  }

  public static void main(String[] args) {
    Checks checks = new Checks();
    for (int run = 0; run < RUNS && checks.wrong() == 0; run++) {
      checks.part("run " + run);
      new ModelTest(run, checks).go();
    }
    checks.end();
  }

  private void go() {
    for (int i = 0; i < CALLS && checks.wrong() == 0; i++) {
      call();
    }
    look("digest", 0, 0, 0, 0, 0);
  }

  /** Mostly 0 to most less 1; now and then something else. */
  private int pick(int most) {
    int dice = random.nextInt(60);
    if (dice == 0) {
      return -1;
    }
    if (dice == 1) {
      return most;
    }
    if (dice == 2 && random.nextInt(8) == 0) {
      return random.nextBoolean() ? Integer.MIN_VALUE : Integer.MAX_VALUE;
    }
    return random.nextInt(most);
  }

  private int signed(int size) {
    return random.nextInt(80) == 0 ? (random.nextBoolean() ? 21 : -21) : random.nextInt(2 * size + 1) - size;
  }

  private int lines(int table, boolean isColumn) {
    return table < 0 || table > 3 ? 4 : model.lines(table, isColumn);
  }

  private void call() {
    String name = random.nextInt(5) == 0 ? "sow" : Model.NAMES[random.nextInt(Model.NAMES.length)];
    int a = pick(4);
    int flag = random.nextInt(2);
    switch (name) {
      case "make":
        look(name, a, 1 + pick(4), 1 + pick(4), 0, 0);
        return;
      case "unit":
        look(name, a, 1 + pick(4), 0, 0, 0);
        return;
      case "put":
        look(name, a, pick(lines(a, false)), pick(lines(a, true)), signed(span), 0);
        return;
      case "sow":
        look(name, a, pick(65536), random.nextInt(30) == 0 ? pick(21) : span, 0, 0);
        return;
      case "exchange":
      case "add":
        look(name, a, flag, pick(lines(a, flag != 0)), pick(lines(a, flag != 0)), signed(3));
        return;
      case "turn":
      case "drop":
        look(name, a, flag, pick(lines(a, flag != 0)), 0, 0);
        return;
      case "sum":
        look(name, a, pick(4), flag, pick(4), 0);
        return;
      case "take":
        look(name, a, pick(5), pick(4), 0, 0);
        return;
      case "solve":
      case "isSolvable":
        int other = pick(4);
        look(name, a, other, pick(lines(other, true)), name.equals("solve") ? pick(4) : pick(2), 0);
        return;
      case "at":
        look(name, a, pick(lines(a, false)), pick(lines(a, true)), 0, 0);
        return;
      case "determinant":
        look(name, a, pick(3), 0, 0, 0);
        return;
      case "minor":
        look(name, a, pick(1 << lines(a, false)), pick(1 << lines(a, true)), 0, 0);
        return;
      case "divisor":
      case "rank":
      case "change":
        look(name, a, pick(name.equals("rank") ? 2 : 5), 0, 0, 0);
        return;
      case "told":
        look(name, a, pick(5), pick(4), pick(4), 0);
        return;
      case "restColumn":
        look(name, a, pick(3), pick(lines(a, true)), 0, 0);
        return;
      case "rest":
        look(name, a, pick(random.nextBoolean() ? 12 : 100000), 0, 0, 0);
        return;
      case "restOf":
        look(name, a, pick(4), pick(4), 0, 0);
        return;
      case "widen":
        look(name, a, flag, 0, 0, 0);
        return;
      case "shape":
        look(name, a, flag, 0, 0, 0);
        return;
      default:
        look(name, a, pick(4), pick(4), 0, 0);
    }
  }

  private void look(String name, int a, int b, int c, int d, int e) {
    String want = model.call(name, a, b, c, d, e);
    checks.due(name + "(" + a + ", " + b + ", " + c + ", " + d + ", " + e + ")", want, () -> ask(name, a, b, c, d, e));
  }

  private Object ask(String name, int a, int b, int c, int d, int e) {
    switch (name) {
      case "make": return x.make(a, b, c);
      case "unit": return x.unit(a, b);
      case "put": return x.put(a, b, c, d);
      case "sow": return x.sow(a, b, c);
      case "copy": return x.copy(a, b);
      case "swap": return x.swap(a, b);
      case "flip": return x.flip(a);
      case "exchange": return x.exchange(a, b != 0, c, d);
      case "turn": return x.turn(a, b != 0, c);
      case "add": return x.add(a, b != 0, c, d, e);
      case "widen": return x.widen(a, b != 0);
      case "drop": return x.drop(a, b != 0, c);
      case "sum": return x.sum(a, b, c != 0, d);
      case "multiply": return x.multiply(a, b, c);
      case "take": return x.take(a, b, c);
      case "solve": return x.solve(a, b, c, d);
      case "shape": return x.shape(a, b != 0);
      case "at": return x.at(a, b, c);
      case "text": return x.text(a);
      case "isSame": return x.isSame(a, b);
      case "determinant": return x.determinant(a, b);
      case "minor": return x.minor(a, b, c);
      case "divisor": return x.divisor(a, b);
      case "rank": return x.rank(a, b);
      case "told": return x.told(a, b, c, d);
      case "change": return x.change(a, b);
      case "isSolvable": return x.isSolvable(a, b, c, d);
      case "restColumn": return x.restColumn(a, b, c);
      case "rest": return x.rest(a, b);
      case "restOf": return x.restOf(a, b, c);
      case "house": return x.house(a);
      case "knock": return x.knock();
      case "isSound": return x.isSound();
      case "digest": return x.digest();
      default: throw new AssertionError(name);
    }
  }
}
