import java.util.Arrays;
import java.util.Random;

/** Long runs of calls of all kinds, each answer held against NaiveBook's. */
public final class RandomTests {
  private static final int RUNS = 240;
  private static final int CALLS = 512;
  private static final int[] ODD = {-1, -2, 8, 9, 6, 12, 80, 400, 399, 256, 64, 101, 201,
      Integer.MAX_VALUE, Integer.MIN_VALUE, Integer.MAX_VALUE - 3};

  private static final int[] TESTS = {0, 1, 2, 3, 6, 9, 11, 13, 14, 27, 45, 57};

  private final Random random;
  private final NightBook book = new NightBook();
  private final NaiveBook naive = new NaiveBook();
  private final int firstDay;
  private final int dayCount;
  private final int widest;
  private final StringBuilder calls = new StringBuilder();

  private RandomTests(long seed) {
    random = new Random(seed);
    // Some runs stay in few days, so that marks and laws meet; some use all of them.
    dayCount = seed % 3 == 0 ? 400 : seed % 3 == 1 ? 30 : 110;
    firstDay = seed % 2 == 0 || dayCount == 400 ? 0 : random.nextInt(400 - dayCount + 1);
    widest = seed % 5 == 0 ? 200 : 12;
  }

  public static void main(String[] args) {
    for (long seed = 0; seed < RUNS && !Due.anyWrong(); seed++) {
      RandomTests run = new RandomTests(seed);
      run.prepare();
      for (int call = 0; call < CALLS - 20 && !Due.anyWrong(); call++) {
        run.step();
      }
      if (!Due.anyWrong()) {
        run.lookAtAll();
      }
      if (Due.anyWrong()) {
        System.out.println("in run " + seed + ":\n" + run.calls);
      }
    }
    Due.end("RandomTests");
  }

  private void prepare() {
    int people = 1 + random.nextInt(3);
    for (int i = 0; i < people; i++) {
      int home = random.nextInt(3);
      int passport = random.nextInt(3);
      due(book.person(home, passport), naive.person(home, passport), "person", home, passport);
    }
  }

  private boolean seldom() {
    return random.nextInt(60) == 0;
  }

  private int number(int bound) {
    if (seldom()) {
      return ODD[random.nextInt(ODD.length)];
    }
    return bound <= 0 ? 0 : random.nextInt(bound);
  }

  private int day() {
    return seldom() ? ODD[random.nextInt(ODD.length)] : firstDay + random.nextInt(dayCount);
  }

  private int dayFrom(int from) {
    if (seldom() || from < 0 || from > 399) {
      return day();
    }
    int far = random.nextInt(3) == 0 ? 400 : 25;
    return Math.min(firstDay + dayCount - 1, from + random.nextInt(far));
  }

  private int land() {
    return random.nextInt(4) == 0 ? number(8) : number(3);
  }

  private int who() {
    return number(random.nextInt(4) == 0 ? 6 : naive.people.size());
  }

  private boolean coin() {
    return random.nextBoolean();
  }

  private void step() {
    switch (random.nextInt(10)) {
      case 0:
      case 1:
        mark();
        break;
      case 2:
        people();
        break;
      case 3:
        lookAtPeople();
        break;
      case 4:
        law();
        break;
      case 5:
      case 6:
        lookAtLaws();
        break;
      case 7:
        claim();
        break;
      case 8:
        lookAtClaims();
        break;
      default:
        shelf();
        break;
    }
  }

  private void mark() {
    int p = who();
    int a = day();
    int b = dayFrom(a);
    int land = land();
    int lands = random.nextInt(3) == 0 ? number(256) : 1 << random.nextInt(3);
    boolean word = coin();
    switch (random.nextInt(3)) {
      case 0:
        due(book.span(p, a, b, lands), naive.span(p, a, b, lands), "span", p, a, b, lands);
        break;
      case 1:
        due(book.slept(p, a, land, word), naive.slept(p, a, land, word), "slept", p, a, land, word ? 1 : 0);
        break;
      default:
        due(book.stamp(p, a, b, land), naive.stamp(p, a, b, land), "stamp", p, a, b, land);
        break;
    }
  }

  private void people() {
    int m = number(naive.marks.size());
    boolean is = coin();
    if (random.nextInt(12) != 0) {
      due(book.drop(m, is), naive.drop(m, is), "drop", m, is ? 1 : 0);
    } else if (coin()) {
      int home = land();
      int passport = land();
      due(book.person(home, passport), naive.person(home, passport), "person", home, passport);
    } else {
      int p = who();
      int q = who();
      due(book.join(p, q), naive.join(p, q), "join", p, q);
    }
  }

  private void lookAtPeople() {
    int p = who();
    int a = day();
    int b = dayFrom(a);
    int m = number(naive.marks.size());
    int what = number(7);
    int land = land();
    boolean most = coin();
    switch (random.nextInt(4)) {
      case 0:
        due(book.mark(m, what), naive.mark(m, what), "mark", m, what);
        break;
      case 1:
        due(book.can(p, a), naive.can(p, a), "can", p, a);
        break;
      case 2:
        due(book.nights(p, land, a, b, most), naive.nights(p, land, a, b, most), "nights", p, land, a, b, most ? 1 : 0);
        break;
      default:
        due(book.sure(p, a, b), naive.sure(p, a, b), "sure", p, a, b);
        break;
    }
  }

  private void law() {
    // Few laws in many runs: many together leave no night free.
    if (naive.laws.size() > 2 && random.nextInt(8) != 0) {
      lookAtLaws();
      return;
    }
    int told = 10 * random.nextInt(4) + land();
    int n = number(widest);
    int w = random.nextInt(20) == 0 ? number(250) - 10 : 1 + number(widest);
    due(book.law(told, n, w), naive.law(told, n, w), "law", told, n, w);
  }

  private void lookAtLaws() {
    int law = number(naive.laws.size());
    int p = who();
    int a = day();
    int b = dayFrom(a);
    int land = land();
    int i = number(12);
    boolean sure = coin();
    switch (random.nextInt(6)) {
      case 0:
        due(book.kept(law, p, a), naive.kept(law, p, a), "kept", law, p, a);
        break;
      case 1:
        due(book.first(law, p, a, sure), naive.first(law, p, a, sure), "first", law, p, a, sure ? 1 : 0);
        break;
      case 2:
        due(book.broken(p), naive.broken(p), "broken", p);
        break;
      case 3:
      case 4:
        due(book.free(p, land, a, b), naive.free(p, land, a, b), "free", p, land, a, b);
        break;
      default:
        due(book.trip(p, land, a, b, i), naive.trip(p, land, a, b, i), "trip", p, land, a, b, i);
        break;
    }
  }

  private void claim() {
    int land = land();
    int other = land();
    int n = coin() ? 1 + number(8) : number(102);
    int tests = coin() ? number(66) : TESTS[random.nextInt(TESTS.length)];
    if (coin()) {
      due(book.claim(land, n), naive.claim(land, n), "claim", land, n);
    } else {
      due(book.treaty(land, other, tests), naive.treaty(land, other, tests), "treaty", land, other, tests);
    }
  }

  private void lookAtClaims() {
    int land = land();
    int other = land();
    int p = who();
    int year = number(4);
    int what = number(7);
    switch (random.nextInt(5)) {
      case 0:
        due(book.claims(land, p, year), naive.claims(land, p, year), "claims", land, p, year);
        break;
      case 1:
        due(book.decides(land, other, p, year), naive.decides(land, other, p, year), "decides", land, other, p, year);
        break;
      case 2:
        due(book.taxed(p, year), naive.taxed(p, year), "taxed", p, year);
        break;
      case 3:
        due(book.quarrels(), naive.quarrels(), "quarrels");
        break;
      default:
        due(book.count(what), naive.count(what), "count", what);
        break;
    }
  }

  private void shelf() {
    int d = number(8);
    int e = coin() ? number(8) : d;
    int what = number(5);
    int k = number(8);
    int i = number(9);
    int j = number(9);
    int n = number(9);
    switch (random.nextInt(6)) {
      case 0:
        due(book.keep(d, what, k), naive.keep(d, what, k), "keep", d, what, k);
        break;
      case 1:
        due(book.make(d, 3 + what % 2, n), naive.make(d, 3 + what % 2, n), "make", d, 3 + what % 2, n);
        break;
      case 2:
        due(element(d, i), naive.element(d, i), "element", d, i);
        break;
      case 3:
        due(book.copy(d, i, e, j, n), naive.copy(d, i, e, j, n), "copy", d, i, e, j, n);
        break;
      case 4:
        due(book.weight(d), naive.weight(d), "weight", d);
        break;
      default:
        due(book.toss(d), naive.toss(d), "toss", d);
        break;
    }
  }

  private long element(int d, int i) {
    try {
      return book.element(d, i);
    } catch (IllegalArgumentException e) {
      return NaiveBook.THROWS_ARGUMENT;
    } catch (IllegalStateException e) {
      return NaiveBook.THROWS_STATE;
    }
  }

  /** The whole state; what is said of calls behind the 512th binds no looks. */
  private void lookAtAll() {
    for (int m = 0; m < naive.marks.size(); m++) {
      for (int what = 0; what < 6; what++) {
        due(book.mark(m, what), naive.mark(m, what), "mark", m, what);
      }
    }
    for (int p = 0; p < naive.people.size(); p++) {
      for (int day = 0; day < 400; day++) {
        due(book.can(p, day), naive.can(p, day), "can", p, day);
      }
    }
    for (int d = 0; d < 8; d++) {
      for (int i = 0; i < 401; i++) {
        due(element(d, i), naive.element(d, i), "element", d, i);
      }
    }
  }

  private void due(long got, long want, String call, int... arguments) {
    String text = call + Arrays.toString(arguments);
    calls.append(text).append(" = ").append(got).append('\n');
    Due.is(text, got, want);
  }
}
