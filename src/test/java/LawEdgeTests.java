/** The edges of promises 12 to 17, laws: each test bears its promise's number and name. */
public final class LawEdgeTests {
  private static final int LOW = Edges.LOW;
  private static final int HIGH = Edges.HIGH;

  private static final int NOT = 0;
  private static final int PERHAPS = 1;
  private static final int SURELY = 2;

  // Kinds of laws as law is told of them, all of land 1.
  private static final int WINDOW = 1;
  private static final int STRETCH = 11;
  private static final int NEEDS = 21;
  private static final int ABSENT = 31;

  public static void main(String[] args) {
    Edges.run(LawEdgeTests.class, 12, 17);
  }

  private static void is(long want, long got) {
    Edges.is(want, got);
  }

  private static void answers(long want, Edges.Scene scene, Edges.Call call) {
    Edges.answers(want, scene, call);
  }

  private static void refuses(long want, Edges.Scene scene, Edges.Call call) {
    Edges.refuses(want, scene, call);
  }

  private static void refusesOutside(int low, int high, Edges.Scene scene, Edges.CallWith call) {
    Edges.refusesOutside(low, high, scene, call);
  }

  /** As many laws as told, and a person. */
  private static Edges.Scene laws(int number) {
    return book -> {
      book.person(0, 1);
      for (int i = 0; i < number; i++) {
        book.law(10 * (i % 4), 1, 1);
      }
    };
  }

  /** A person of home 0 and passport 2, and a law. */
  private static NightBook withLaw(int told, int n, int w) {
    NightBook book = new NightBook();
    book.person(0, 2);
    is(0, book.law(told, n, w));
    return book;
  }

  /** Night by night from a day: s surely in land 1, . not there, ? open. */
  private static void tell(NightBook book, int from, String nights) {
    for (int i = 0; i < nights.length(); i++) {
      if (nights.charAt(i) == 's') {
        book.slept(0, from + i, 1, false);
      } else if (nights.charAt(i) == '.') {
        book.stamp(0, from + i, from + i, 1);
      }
    }
  }

  /** The law on the last of some nights that begin with a day. */
  private static void verdict(int want, int told, int n, int w, int from, String nights) {
    NightBook book = withLaw(told, n, w);
    tell(book, from, nights);
    is(want, book.kept(0, 0, from + nights.length() - 1));
  }

  // ---- 12

  static void promise12LawToldAsKindAndLand() {
    for (int value = -12; value < 120; value++) {
      int told = value;
      boolean right = told >= 0 && told < 40 && told % 10 < 8;
      if (right) {
        answers(4, Edges.BUSY, book -> book.law(told, 1, 1));
      } else {
        refuses(-1, Edges.BUSY, book -> book.law(told, 1, 1));
      }
    }
    refuses(-1, Edges.BUSY, book -> book.law(LOW, 1, 1));
    refuses(-1, Edges.BUSY, book -> book.law(HIGH, 1, 1));
  }

  static void promise12LawLandsOfEachKind() {
    int[] weights = {10, 111, 13, 226};
    for (int kind = 0; kind < 4; kind++) {
      for (int land = 0; land < 8; land += 7) {
        NightBook book = withLaw(10 * kind + land, 0, 1);
        book.keep(0, 1, 0);
        is(weights[kind], book.weight(0));
        is(kind == 2 ? -15 : land, book.toss(0));
      }
    }
  }

  static void promise12LawNFrom0To200() {
    for (int kind = 0; kind < 4; kind++) {
      int told = 10 * kind;
      refusesOutside(0, 200, Edges.BUSY, (book, n) -> book.law(told, n, 1));
      answers(4, Edges.BUSY, book -> book.law(told, 0, 1));
      answers(4, Edges.BUSY, book -> book.law(told, 200, 1));
    }
  }

  static void promise12LawWFrom1To200OfWindowAndNeeds() {
    for (int kind = 0; kind < 4; kind += 2) {
      int told = 10 * kind;
      refusesOutside(1, 200, Edges.BUSY, (book, w) -> book.law(told, 1, w));
      refuses(-1, Edges.BUSY, book -> book.law(told, 1, -1));
      answers(4, Edges.BUSY, book -> book.law(told, 1, 1));
      answers(4, Edges.BUSY, book -> book.law(told, 1, 200));
    }
  }

  static void promise12LawAnyWOfStretchAndAbsent() {
    for (int kind = 1; kind < 4; kind += 2) {
      int told = 10 * kind;
      for (int value : new int[] {LOW, -1, 0, 1, 200, 201, HIGH}) {
        int w = value;
        answers(4, Edges.BUSY, book -> book.law(told, 1, w));
      }
    }
  }

  static void promise12LawNAboveW() {
    answers(4, Edges.BUSY, book -> book.law(0, 200, 1));
    answers(4, Edges.BUSY, book -> book.law(20, 200, 1));
  }

  static void promise12LawTwelfthIsTakenNextRefused() {
    for (int kind = 0; kind < 4; kind++) {
      int told = 10 * kind;
      answers(11, laws(11), book -> book.law(told, 1, 1));
      refuses(-2, laws(12), book -> book.law(told, 1, 1));
      refuses(-2, Edges.FULL, book -> book.law(told, 200, 200));
    }
  }

  static void promise12LawMinus1AheadOfMinus2() {
    refuses(-1, Edges.FULL, book -> book.law(8, 1, 1));
    refuses(-1, Edges.FULL, book -> book.law(40, 1, 1));
    refuses(-1, Edges.FULL, book -> book.law(-1, 1, 1));
    refuses(-1, Edges.FULL, book -> book.law(0, 201, 1));
    refuses(-1, Edges.FULL, book -> book.law(10, -1, 1));
    refuses(-1, Edges.FULL, book -> book.law(0, 1, 0));
    refuses(-1, Edges.FULL, book -> book.law(20, 1, 201));
  }

  static void promise12LawNumbersAsTheyComeAfterRefusals() {
    NightBook book = Edges.book(Edges.ONE);
    for (int i = 0; i < 12; i++) {
      is(-1, book.law(9, 1, 1));
      is(-1, book.law(0, 1, 0));
      is(i, book.law(i % 4 * 10 + i % 8, 1, 1));
      is(i + 1, book.count(2));
    }
    is(-2, book.law(0, 1, 1));
  }

  // ---- 13

  static void promise13KeptLawMustBeThere() {
    refusesOutside(0, 3, Edges.BUSY, (book, law) -> book.kept(law, 0, 0));
    refusesOutside(0, 11, Edges.FULL, (book, law) -> book.kept(law, 0, 0));
    answers(SURELY, Edges.BUSY, book -> book.kept(0, 0, 0));
    answers(PERHAPS, Edges.BUSY, book -> book.kept(3, 2, 399));
  }

  static void promise13KeptPersonMustBeThere() {
    refusesOutside(0, 4, Edges.BUSY, (book, person) -> book.kept(0, person, 0));
    answers(SURELY, Edges.BUSY, book -> book.kept(0, 4, 0));
  }

  static void promise13KeptDayFrom0To399() {
    for (int law = 0; law < 4; law++) {
      int l = law;
      refusesOutside(0, 399, Edges.BUSY, (book, day) -> book.kept(l, 0, day));
    }
    answers(SURELY, Edges.BUSY, book -> book.kept(1, 0, 0));
    answers(PERHAPS, Edges.BUSY, book -> book.kept(1, 0, 399));
  }

  static void promise13KeptWindowByMost() {
    verdict(SURELY, WINDOW, 2, 4, 10, "....");
    verdict(SURELY, WINDOW, 2, 4, 10, "??..");
    verdict(SURELY, WINDOW, 2, 4, 10, "ss..");
    verdict(PERHAPS, WINDOW, 2, 4, 10, "???.");
    verdict(PERHAPS, WINDOW, 2, 4, 10, "????");
  }

  static void promise13KeptWindowByLeast() {
    verdict(PERHAPS, WINDOW, 2, 4, 10, "ss?.");
    verdict(PERHAPS, WINDOW, 2, 4, 10, "ss??");
    verdict(NOT, WINDOW, 2, 4, 10, "sss.");
    verdict(NOT, WINDOW, 2, 4, 10, "sss?");
    verdict(NOT, WINDOW, 2, 4, 10, "ssss");
  }

  static void promise13KeptWindowEndsWithTheDay() {
    verdict(SURELY, WINDOW, 2, 4, 9, "sss..");
    verdict(NOT, WINDOW, 2, 4, 9, "sss.");
    verdict(SURELY, WINDOW, 2, 4, 10, ".ss.");
    NightBook book = withLaw(WINDOW, 2, 4);
    tell(book, 10, "..sss");
    is(SURELY, book.kept(0, 0, 13));
    is(NOT, book.kept(0, 0, 14));
  }

  static void promise13KeptWindowBeginsAtDay0AtLeast() {
    verdict(SURELY, WINDOW, 2, 4, 0, "ss");
    verdict(NOT, WINDOW, 2, 4, 0, "sss");
    verdict(NOT, WINDOW, 0, 200, 0, "s");
    verdict(PERHAPS, WINDOW, 0, 200, 0, "?");
    verdict(SURELY, WINDOW, 0, 200, 0, ".");
  }

  static void promise13KeptWindowOfOneNight() {
    verdict(NOT, WINDOW, 0, 1, 10, "s");
    verdict(PERHAPS, WINDOW, 0, 1, 10, "?");
    verdict(SURELY, WINDOW, 0, 1, 10, "s.");
    verdict(SURELY, WINDOW, 1, 1, 10, "s");
  }

  static void promise13KeptWindowOf200Nights() {
    NightBook book = withLaw(WINDOW, 0, 200);
    book.slept(0, 0, 1, false);
    book.stamp(0, 1, 399, 1);
    is(NOT, book.kept(0, 0, 199));
    is(SURELY, book.kept(0, 0, 200));
    book = withLaw(WINDOW, 199, 200);
    book.span(0, 0, 399, 2);
    is(SURELY, book.kept(0, 0, 198));
    is(NOT, book.kept(0, 0, 199));
    is(NOT, book.kept(0, 0, 399));
    book = withLaw(WINDOW, 200, 200);
    book.span(0, 0, 399, 2);
    is(SURELY, book.kept(0, 0, 199));
    is(SURELY, book.kept(0, 0, 399));
  }

  static void promise13KeptNeedsByLeast() {
    verdict(SURELY, NEEDS, 2, 4, 10, "ss..");
    verdict(SURELY, NEEDS, 2, 4, 10, "ss??");
    verdict(SURELY, NEEDS, 2, 4, 10, "sss.");
    verdict(PERHAPS, NEEDS, 2, 4, 10, "s??.");
    verdict(PERHAPS, NEEDS, 2, 4, 10, "????");
  }

  static void promise13KeptNeedsByMost() {
    verdict(PERHAPS, NEEDS, 2, 4, 10, "s?..");
    verdict(PERHAPS, NEEDS, 2, 4, 10, "??..");
    verdict(NOT, NEEDS, 2, 4, 10, "s...");
    verdict(NOT, NEEDS, 2, 4, 10, "?...");
    verdict(NOT, NEEDS, 2, 4, 10, "....");
  }

  static void promise13KeptNeedsEndsWithTheDay() {
    verdict(SURELY, NEEDS, 2, 4, 9, "ss..");
    verdict(NOT, NEEDS, 2, 4, 9, "ss...");
    verdict(NOT, NEEDS, 1, 1, 10, "s.");
    verdict(SURELY, NEEDS, 1, 1, 10, ".s");
  }

  static void promise13KeptNeedsFewerNightsAtTheBeginning() {
    verdict(NOT, NEEDS, 2, 4, 0, "s");
    verdict(SURELY, NEEDS, 2, 4, 0, "ss");
    verdict(PERHAPS, NEEDS, 2, 4, 0, "s?");
    verdict(SURELY, NEEDS, 1, 200, 0, "s");
    verdict(NOT, NEEDS, 200, 200, 0, "s");
  }

  static void promise13KeptNeedsOfNoneAndOfMoreThanThereAre() {
    verdict(SURELY, NEEDS, 0, 4, 10, "....");
    verdict(SURELY, NEEDS, 0, 1, 0, ".");
    verdict(SURELY, NEEDS, 4, 4, 10, "ssss");
    verdict(NOT, NEEDS, 5, 4, 10, "ssss");
  }

  static void promise13KeptNeedsOf200Nights() {
    NightBook book = withLaw(NEEDS, 1, 200);
    book.slept(0, 0, 1, false);
    book.stamp(0, 1, 399, 1);
    is(SURELY, book.kept(0, 0, 199));
    is(NOT, book.kept(0, 0, 200));
    book = withLaw(NEEDS, 200, 200);
    book.span(0, 0, 399, 2);
    is(NOT, book.kept(0, 0, 198));
    is(SURELY, book.kept(0, 0, 199));
    is(SURELY, book.kept(0, 0, 399));
  }

  static void promise13KeptStretchByLeastAndMost() {
    verdict(NOT, STRETCH, 2, 1, 10, "sss");
    verdict(PERHAPS, STRETCH, 2, 1, 10, "ss?");
    verdict(PERHAPS, STRETCH, 2, 1, 10, "???");
    verdict(SURELY, STRETCH, 2, 1, 10, "ss.");
    verdict(SURELY, STRETCH, 2, 1, 10, ".ss");
    verdict(SURELY, STRETCH, 2, 1, 10, "??.");
    verdict(SURELY, STRETCH, 2, 1, 10, "...");
    verdict(SURELY, STRETCH, 2, 1, 10, "ss.ss");
  }

  static void promise13KeptStretchBelowN() {
    verdict(SURELY, STRETCH, 2, 1, 0, "s");
    verdict(SURELY, STRETCH, 2, 1, 0, "ss");
    verdict(SURELY, STRETCH, 2, 1, 0, "??");
    verdict(NOT, STRETCH, 2, 1, 0, "sss");
    verdict(PERHAPS, STRETCH, 2, 1, 0, "???");
  }

  static void promise13KeptStretchOf0() {
    verdict(NOT, STRETCH, 0, 1, 0, "s");
    verdict(PERHAPS, STRETCH, 0, 1, 0, "?");
    verdict(SURELY, STRETCH, 0, 1, 0, ".");
    verdict(SURELY, STRETCH, 0, 1, 10, "s.");
  }

  static void promise13KeptStretchOf200() {
    NightBook book = withLaw(STRETCH, 200, 1);
    book.span(0, 0, 200, 2);
    book.stamp(0, 201, 201, 1);
    is(SURELY, book.kept(0, 0, 199));
    is(NOT, book.kept(0, 0, 200));
    is(SURELY, book.kept(0, 0, 201));
    is(SURELY, book.kept(0, 0, 399));
  }

  static void promise13KeptStretchDoesNotLookAtW() {
    for (int w : new int[] {LOW, -1, 0, 1, 3, 201, HIGH}) {
      verdict(NOT, STRETCH, 2, w, 10, "sss");
      verdict(SURELY, STRETCH, 2, w, 10, ".ss");
    }
  }

  static void promise13KeptAbsentByLeastAndMost() {
    verdict(NOT, ABSENT, 2, 1, 10, "...");
    verdict(NOT, ABSENT, 2, 1, 10, "s...");
    verdict(PERHAPS, ABSENT, 2, 1, 10, "..?");
    verdict(PERHAPS, ABSENT, 2, 1, 10, "???");
    verdict(SURELY, ABSENT, 2, 1, 10, "..s");
    verdict(SURELY, ABSENT, 2, 1, 10, "s..");
    verdict(SURELY, ABSENT, 2, 1, 10, "s??");
    verdict(SURELY, ABSENT, 2, 1, 10, "sss");
  }

  static void promise13KeptAbsentBelowN() {
    verdict(SURELY, ABSENT, 2, 1, 0, ".");
    verdict(SURELY, ABSENT, 2, 1, 0, "..");
    verdict(SURELY, ABSENT, 2, 1, 0, "??");
    verdict(NOT, ABSENT, 2, 1, 0, "...");
    verdict(PERHAPS, ABSENT, 2, 1, 0, "???");
    verdict(SURELY, ABSENT, 2, 1, 0, "s..");
  }

  static void promise13KeptAbsentOf0() {
    verdict(NOT, ABSENT, 0, 1, 0, ".");
    verdict(PERHAPS, ABSENT, 0, 1, 0, "?");
    verdict(SURELY, ABSENT, 0, 1, 0, "s");
    verdict(NOT, ABSENT, 0, 1, 10, "s.");
  }

  static void promise13KeptAbsentOf200() {
    NightBook book = withLaw(ABSENT, 200, 1);
    book.stamp(0, 0, 200, 1);
    book.slept(0, 201, 1, false);
    is(SURELY, book.kept(0, 0, 199));
    is(NOT, book.kept(0, 0, 200));
    is(SURELY, book.kept(0, 0, 201));
    is(SURELY, book.kept(0, 0, 399));
  }

  static void promise13KeptAbsentDoesNotLookAtW() {
    for (int w : new int[] {LOW, -1, 0, 1, 3, 201, HIGH}) {
      verdict(NOT, ABSENT, 2, w, 10, "...");
      verdict(SURELY, ABSENT, 2, w, 10, "s..");
    }
  }

  // ---- 14

  static void promise14FirstLawMustBeThere() {
    for (boolean sure : new boolean[] {false, true}) {
      refusesOutside(0, 3, Edges.BUSY, (book, law) -> book.first(law, 0, 0, sure));
      refusesOutside(0, 11, Edges.FULL, (book, law) -> book.first(law, 0, 0, sure));
    }
  }

  static void promise14FirstPersonMustBeThere() {
    for (boolean sure : new boolean[] {false, true}) {
      refusesOutside(0, 4, Edges.BUSY, (book, person) -> book.first(0, person, 0, sure));
    }
    answers(-2, Edges.BUSY, book -> book.first(0, 4, 0, true));
    answers(3, Edges.BUSY, book -> book.first(0, 4, 0, false));
  }

  static void promise14FirstDayFrom0To399() {
    for (boolean sure : new boolean[] {false, true}) {
      refusesOutside(0, 399, Edges.BUSY, (book, day) -> book.first(0, 0, day, sure));
    }
    NightBook book = withLaw(STRETCH, 0, 1);
    book.span(0, 0, 399, 2);
    is(0, book.first(0, 0, 0, true));
    is(399, book.first(0, 0, 399, true));
    is(0, book.first(0, 0, 0, false));
    is(399, book.first(0, 0, 399, false));
  }

  static void promise14FirstNone() {
    NightBook book = withLaw(STRETCH, 0, 1);
    is(-2, book.first(0, 0, 0, true));
    book.stamp(0, 0, 399, 1);
    is(-2, book.first(0, 0, 0, false));
    is(-2, book.first(0, 0, 399, false));
    is(-2, book.first(0, 0, 399, true));
  }

  static void promise14FirstTheDayItselfAndTheOneBehind() {
    NightBook book = withLaw(STRETCH, 0, 1);
    book.stamp(0, 0, 49, 1);
    book.slept(0, 50, 1, false);
    book.stamp(0, 51, 399, 1);
    for (boolean sure : new boolean[] {false, true}) {
      is(50, book.first(0, 0, 0, sure));
      is(50, book.first(0, 0, 49, sure));
      is(50, book.first(0, 0, 50, sure));
      is(-2, book.first(0, 0, 51, sure));
    }
  }

  static void promise14FirstOnTheLastDayAlone() {
    NightBook book = withLaw(STRETCH, 0, 1);
    book.stamp(0, 0, 398, 1);
    book.slept(0, 399, 1, false);
    is(399, book.first(0, 0, 0, true));
    is(399, book.first(0, 0, 399, true));
    is(399, book.first(0, 0, 398, false));
  }

  static void promise14FirstNotKeptOrNotSurely() {
    NightBook book = withLaw(STRETCH, 0, 1);
    tell(book, 0, "..?..s..?");
    is(5, book.first(0, 0, 0, true));
    is(2, book.first(0, 0, 0, false));
    is(5, book.first(0, 0, 3, false));
    is(-2, book.first(0, 0, 6, true));
    is(8, book.first(0, 0, 6, false));
  }

  static void promise14FirstLooksBackBeyondTheDay() {
    NightBook book = withLaw(WINDOW, 2, 200);
    book.span(0, 0, 2, 2);
    book.stamp(0, 3, 399, 1);
    is(2, book.first(0, 0, 0, true));
    is(199, book.first(0, 0, 199, true));
    is(-2, book.first(0, 0, 200, true));
  }

  static void promise14FirstWhereNight0FallsOutOfTheSpan() {
    NightBook book = withLaw(NEEDS, 1, 5);
    book.slept(0, 0, 1, false);
    book.stamp(0, 1, 399, 1);
    is(5, book.first(0, 0, 0, true));
    is(5, book.first(0, 0, 4, false));
    book = withLaw(ABSENT, 4, 1);
    book.slept(0, 0, 1, false);
    book.stamp(0, 1, 399, 1);
    is(5, book.first(0, 0, 0, true));
    is(5, book.first(0, 0, 4, false));
  }

  static void promise14FirstOfNeedsAtTheBeginning() {
    NightBook book = withLaw(NEEDS, 2, 4);
    is(0, book.first(0, 0, 0, true));
    is(-2, book.first(0, 0, 1, true));
    is(1, book.first(0, 0, 1, false));
    book.span(0, 0, 399, 2);
    is(0, book.first(0, 0, 0, false));
    is(-2, book.first(0, 0, 1, false));
  }

  static void promise14FirstOfAbsentOnDayN() {
    NightBook book = withLaw(ABSENT, 200, 1);
    book.stamp(0, 0, 399, 1);
    is(200, book.first(0, 0, 0, true));
    is(200, book.first(0, 0, 0, false));
    is(399, book.first(0, 0, 399, true));
  }

  // ---- 15

  static void promise15BrokenPersonMustBeThere() {
    refusesOutside(0, 4, Edges.BUSY, (book, person) -> book.broken(person));
    refusesOutside(0, 5, Edges.FULL, (book, person) -> book.broken(person));
    answers(4, Edges.BUSY, book -> book.broken(4));
  }

  static void promise15BrokenWithoutLaws() {
    answers(0, Edges.ONE, book -> book.broken(0));
  }

  static void promise15BrokenFirstAndLastOfTwelve() {
    NightBook book = Edges.book(Edges.ONE);
    for (int i = 0; i < 12; i++) {
      book.law(i == 0 || i == 11 ? 11 : 12, 0, 1);
    }
    is(0, book.broken(0));
    book.slept(0, 200, 1, false);
    is(1 | 1 << 11, book.broken(0));
    book.slept(0, 201, 2, false);
    is(4095, book.broken(0));
  }

  static void promise15BrokenPerhapsIsNone() {
    NightBook book = withLaw(STRETCH, 0, 1);
    is(0, book.broken(0));
    is(0, book.first(0, 0, 0, false));
  }

  static void promise15BrokenOnDay0AloneAndOnDay399Alone() {
    for (int day = 0; day < 400; day += 399) {
      NightBook book = withLaw(STRETCH, 0, 1);
      book.slept(0, day, 1, false);
      is(1, book.broken(0));
    }
  }

  static void promise15BrokenNeedsFromDay0On() {
    NightBook book = withLaw(NEEDS, 1, 4);
    is(0, book.broken(0));
    book.span(0, 0, 399, 2);
    is(0, book.broken(0));
    book.law(NEEDS, 2, 4);
    is(2, book.broken(0));
  }

  static void promise15BrokenByOneIsNotByAnother() {
    NightBook book = withLaw(STRETCH, 0, 1);
    book.person(0, 0);
    book.slept(0, 5, 1, false);
    is(1, book.broken(0));
    is(0, book.broken(1));
    is(1, book.join(1, 0));
    is(0, book.broken(0));
    is(1, book.broken(1));
  }

  // ---- 16

  static void promise16FreePersonMustBeThere() {
    refusesOutside(0, 4, Edges.BUSY, (book, person) -> book.free(person, 6, 50, 60));
    Edges.changesNothing(11, Edges.ONE, book -> book.free(0, 6, 50, 60));
  }

  static void promise16FreeLandFrom0To7() {
    refusesOutside(0, 7, Edges.BUSY, (book, land) -> book.free(0, land, 50, 60));
    refuses(-1, Edges.BUSY, book -> book.free(0, 32, 50, 60));
    answers(11, Edges.ONE, book -> book.free(0, 0, 50, 60));
    answers(11, Edges.ONE, book -> book.free(0, 7, 50, 60));
  }

  static void promise16FreeDaysFrom0To399() {
    refuses(-1, Edges.BUSY, book -> book.free(0, 6, -1, 60));
    refuses(-1, Edges.BUSY, book -> book.free(0, 6, LOW, 60));
    refuses(-1, Edges.BUSY, book -> book.free(0, 6, 50, 400));
    refuses(-1, Edges.BUSY, book -> book.free(0, 6, 50, HIGH));
    refuses(-1, Edges.BUSY, book -> book.free(0, 6, 400, 400));
    refuses(-1, Edges.BUSY, book -> book.free(0, 6, -1, -1));
    answers(400, Edges.ONE, book -> book.free(0, 6, 0, 399));
    answers(1, Edges.ONE, book -> book.free(0, 6, 0, 0));
    answers(1, Edges.ONE, book -> book.free(0, 6, 399, 399));
  }

  static void promise16FreeFromAAboveB() {
    refuses(-1, Edges.BUSY, book -> book.free(0, 6, 51, 50));
    refuses(-1, Edges.BUSY, book -> book.free(0, 6, 399, 0));
    answers(1, Edges.ONE, book -> book.free(0, 6, 50, 50));
  }

  static void promise16FreeIsInMindOnly() {
    for (int land = 0; land < 8; land++) {
      int l = land;
      long nights = Edges.book(Edges.BUSY).free(1, l, 0, 399);
      Edges.changesNothing(nights, Edges.BUSY, book -> book.free(1, l, 0, 399));
    }
  }

  static void promise16FreeWhateverMarksTellOfItsNights() {
    NightBook book = withLaw(STRETCH, 200, 1);
    book.span(0, 0, 399, 8);
    is(11, book.free(0, 1, 50, 60));
    is(200, book.free(0, 1, 0, 199));
    is(200, book.free(0, 1, 0, 200));
  }

  static void promise16FreeNoneByLawsOfTheLand() {
    is(0, withLaw(WINDOW, 0, 1).free(0, 1, 50, 60));
    is(0, withLaw(STRETCH, 0, 1).free(0, 1, 50, 60));
    is(11, withLaw(NEEDS, 200, 200).free(0, 1, 50, 60));
  }

  static void promise16FreeAbsentFromTheLandLeavesTheLastDay() {
    NightBook book = withLaw(ABSENT, 0, 1);
    is(1, book.free(0, 1, 50, 60));
    is(60, book.trip(0, 1, 50, 60, 0));
    is(1, book.free(0, 1, 50, 50));
  }

  static void promise16FreeWindowAtMostNOfW() {
    NightBook book = withLaw(WINDOW, 2, 5);
    book.stamp(0, 0, 49, 1);
    is(2, book.free(0, 1, 50, 51));
    is(2, book.free(0, 1, 50, 54));
    is(3, book.free(0, 1, 50, 55));
    is(4, book.free(0, 1, 50, 56));
  }

  static void promise16FreeStretchAtMostNInARow() {
    NightBook book = withLaw(STRETCH, 2, 1);
    book.stamp(0, 0, 49, 1);
    is(2, book.free(0, 1, 50, 51));
    is(2, book.free(0, 1, 50, 52));
    is(3, book.free(0, 1, 50, 53));
  }

  static void promise16FreeAbsentFromHome() {
    NightBook book = withLaw(30, 2, 1);
    book.span(0, 0, 49, 1);
    is(2, book.free(0, 1, 50, 51));
    is(2, book.free(0, 1, 50, 52));
    is(3, book.free(0, 1, 50, 53));
  }

  static void promise16FreeAbsentFromDayNOnUpToB() {
    NightBook book = withLaw(35, 5, 1);
    is(3, book.free(0, 1, 2, 4));
    is(0, book.free(0, 1, 2, 5));
    book.slept(0, 0, 5, false);
    is(4, book.free(0, 1, 2, 5));
    is(0, book.free(0, 1, 2, 6));
    is(-2, book.trip(0, 1, 2, 6, 0));
    book = withLaw(ABSENT, 5, 1);
    is(5, book.free(0, 1, 2, 6));
    is(3, book.free(0, 1, 2, 4));
  }

  static void promise16FreeFromDay0() {
    NightBook book = withLaw(30, 2, 1);
    is(3, book.free(0, 1, 0, 3));
    is(0, book.trip(0, 1, 0, 3, 0));
    is(1, book.trip(0, 1, 0, 3, 1));
    is(3, book.trip(0, 1, 0, 3, 2));
    book = withLaw(STRETCH, 1, 1);
    is(3, book.free(0, 1, 0, 4));
    is(0, book.trip(0, 1, 0, 4, 0));
    is(4, book.trip(0, 1, 0, 4, 2));
    book = withLaw(WINDOW, 2, 3);
    is(4, book.free(0, 1, 0, 4));
    is(3, book.trip(0, 1, 0, 4, 2));
  }

  static void promise16FreeToDay399() {
    NightBook book = withLaw(STRETCH, 1, 1);
    book.stamp(0, 395, 395, 1);
    is(2, book.free(0, 1, 396, 399));
    is(398, book.trip(0, 1, 396, 399, 1));
    is(1, book.free(0, 1, 396, 397));
  }

  static void promise16FreeNightsBeforeThatCanHaveBeenThere() {
    NightBook book = withLaw(STRETCH, 1, 1);
    is(0, book.free(0, 1, 50, 50));
    book.stamp(0, 49, 49, 1);
    is(1, book.free(0, 1, 50, 50));
    is(1, book.free(0, 1, 0, 0));
  }

  static void promise16FreeLawsBrokenBeforeAOrBehindBAreNothingToIt() {
    NightBook book = withLaw(STRETCH, 1, 1);
    book.span(0, 0, 48, 2);
    book.stamp(0, 49, 49, 1);
    book.span(0, 51, 99, 2);
    is(1, book.free(0, 1, 50, 50));
    is(2, book.free(0, 1, 50, 52));
  }

  static void promise16FreeOnAllDaysBehindItUpToB() {
    NightBook book = withLaw(0, 3, 5);
    is(0, book.free(0, 1, 10, 14));
    book = withLaw(0, 4, 5);
    is(5, book.free(0, 1, 10, 14));
    book = withLaw(10, 2, 1);
    book.slept(0, 49, 3, false);
    is(1, book.free(0, 1, 50, 50));
    is(3, book.free(0, 1, 50, 52));
    is(50, book.trip(0, 1, 50, 52, 0));
    is(3, book.free(0, 1, 50, 53));
    is(51, book.trip(0, 1, 50, 53, 0));
    is(3, book.free(0, 1, 50, 54));
    is(52, book.trip(0, 1, 50, 54, 0));
  }

  static void promise16FreeLawsOfAllLandsBind() {
    for (int land = 0; land < 8; land++) {
      NightBook book = Edges.book(Edges.ONE);
      book.law(30 + land, 0, 1);
      is(land == 6 ? 1 : 0, book.free(0, 6, 50, 50));
    }
  }

  static void promise16FreeRestAtHome() {
    for (int rest = 0; rest < 8; rest++) {
      NightBook book = new NightBook();
      book.person(5, 2);
      book.law(10 + rest, 0, 1);
      is(rest == 1 ? 0 : rest == 5 ? 1 : 2, book.free(0, 1, 50, 51));
    }
  }

  static void promise16FreeRestByThePassportIfHomeIsTheLand() {
    for (int rest = 0; rest < 8; rest++) {
      NightBook book = new NightBook();
      book.person(5, 7);
      book.law(10 + rest, 0, 1);
      is(rest == 5 ? 0 : rest == 7 ? 1 : 2, book.free(0, 5, 50, 51));
    }
  }

  static void promise16FreeRestInTheLeastOtherLandIfThePassportIsToo() {
    for (int land = 0; land < 8; land++) {
      int least = land == 0 ? 1 : 0;
      for (int rest = 0; rest < 8; rest++) {
        NightBook book = new NightBook();
        book.person(land, land);
        book.law(10 + rest, 0, 1);
        is(rest == land ? 0 : rest == least ? 1 : 2, book.free(0, land, 50, 51));
      }
    }
  }

  // ---- 17

  static void promise17TripPersonMustBeThere() {
    refusesOutside(0, 4, Edges.BUSY, (book, person) -> book.trip(person, 6, 50, 60, 0));
  }

  static void promise17TripLandFrom0To7() {
    refusesOutside(0, 7, Edges.BUSY, (book, land) -> book.trip(0, land, 50, 60, 0));
    answers(50, Edges.ONE, book -> book.trip(0, 0, 50, 60, 0));
    answers(50, Edges.ONE, book -> book.trip(0, 7, 50, 60, 0));
  }

  static void promise17TripDaysFrom0To399() {
    refuses(-1, Edges.BUSY, book -> book.trip(0, 6, -1, 60, 0));
    refuses(-1, Edges.BUSY, book -> book.trip(0, 6, LOW, 60, 0));
    refuses(-1, Edges.BUSY, book -> book.trip(0, 6, 50, 400, 0));
    refuses(-1, Edges.BUSY, book -> book.trip(0, 6, 50, HIGH, 0));
    refuses(-1, Edges.BUSY, book -> book.trip(0, 6, 400, 400, 0));
    answers(0, Edges.ONE, book -> book.trip(0, 6, 0, 399, 0));
    answers(399, Edges.ONE, book -> book.trip(0, 6, 0, 399, 399));
    answers(399, Edges.ONE, book -> book.trip(0, 6, 399, 399, 0));
  }

  static void promise17TripFromAAboveB() {
    refuses(-1, Edges.BUSY, book -> book.trip(0, 6, 51, 50, 0));
    answers(50, Edges.ONE, book -> book.trip(0, 6, 50, 50, 0));
  }

  static void promise17TripThereAreNotSoMany() {
    Edges.changesNothing(60, Edges.ONE, book -> book.trip(0, 6, 50, 60, 10));
    refuses(-2, Edges.ONE, book -> book.trip(0, 6, 50, 60, 11));
    refuses(-2, Edges.ONE, book -> book.trip(0, 6, 50, 60, HIGH));
    refuses(-2, Edges.ONE, book -> book.trip(0, 6, 0, 399, 400));
  }

  static void promise17TripOfNoDays() {
    NightBook book = withLaw(WINDOW, 0, 1);
    is(0, book.free(0, 1, 50, 60));
    is(-2, book.trip(0, 1, 50, 60, 0));
  }

  static void promise17TripBelow0() {
    refuses(-1, Edges.ONE, book -> book.trip(0, 6, 50, 60, -1));
    refuses(-1, Edges.ONE, book -> book.trip(0, 6, 50, 60, LOW));
  }

  static void promise17TripMinus1AheadOfMinus2() {
    refuses(-1, Edges.ONE, book -> book.trip(1, 6, 50, 60, 11));
    refuses(-1, Edges.ONE, book -> book.trip(0, 8, 50, 60, 11));
    refuses(-1, Edges.ONE, book -> book.trip(0, 6, 61, 60, 11));
    refuses(-1, Edges.ONE, book -> book.trip(0, 6, 50, 400, HIGH));
  }

  static void promise17TripDaysAreThoseTaken() {
    NightBook book = withLaw(WINDOW, 2, 5);
    book.stamp(0, 0, 49, 1);
    int[] days = {50, 51, 55, 56, 60};
    is(days.length, book.free(0, 1, 50, 60));
    for (int i = 0; i < days.length; i++) {
      is(days[i], book.trip(0, 1, 50, 60, i));
    }
    is(-2, book.trip(0, 1, 50, 60, days.length));
  }
}
