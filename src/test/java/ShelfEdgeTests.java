/** The edges of promises 25 to 30, shelves: each test bears its promise's number and name. */
public final class ShelfEdgeTests {
  private static final int LOW = Edges.LOW;
  private static final int HIGH = Edges.HIGH;

  private static final int LAW = 1;
  private static final int MARK = 2;
  private static final int BYTES = 3;
  private static final int SHORTS = 4;

  // What the shelves of the busy scene hold.
  private static final int ON_LAW = 0;
  private static final int ON_BILL = 1;
  private static final int ON_BYTES = 2;
  private static final int ON_SHORTS = 3;
  private static final int ON_5_BYTES = 4;
  private static final int ON_60_SHORTS = 5;
  private static final int ON_NEEDS = 6;
  private static final int ON_NOTHING = 7;

  public static void main(String[] args) {
    Edges.run(ShelfEdgeTests.class, 25, 30);
  }

  private static void is(long want, long got) {
    Edges.is(want, got);
  }

  private static void answers(long want, Edges.Scene scene, Edges.Call call) {
    Edges.answers(want, scene, call);
  }

  private static void refuses(long want, Edges.Scene scene, Edges.Call call) {
    Edges.refuses(want, scene, call);
  }

  private static void refusesOutside(int low, int high, Edges.Scene scene, Edges.CallWith call) {
    Edges.refusesOutside(low, high, scene, call);
  }

  /** Shelf 0 has the bytes 1, 2, 4, 8, 16, .. of nights 0 to 6, and -1 behind them. */
  private static NightBook powers() {
    NightBook book = new NightBook();
    book.person(0, 0);
    for (int day = 0; day < 7; day++) {
      book.slept(0, day, day, false);
    }
    book.keep(0, BYTES, 0);
    return book;
  }

  private static void row(NightBook book, int d, int... due) {
    for (int i = 0; i < due.length; i++) {
      is(due[i], book.element(d, i));
    }
  }

  // ---- 25

  static void promise25KeepShelfFrom0To7() {
    for (int what = 0; what < 5; what++) {
      int w = what;
      refusesOutside(0, 7, Edges.BUSY, (book, d) -> book.keep(d, w, 0));
      answers(0, Edges.BUSY, book -> book.keep(0, w, 0));
      answers(0, Edges.BUSY, book -> book.keep(7, w, 0));
    }
  }

  static void promise25KeepWhatFrom0To4() {
    for (int shelf = 0; shelf < 8; shelf++) {
      int d = shelf;
      refusesOutside(0, 4, Edges.BUSY, (book, what) -> book.keep(d, what, 0));
    }
  }

  static void promise25KeepNothingWhateverKIs() {
    for (int k : new int[] {LOW, -1, 0, 80, HIGH}) {
      for (int d = 0; d < 8; d++) {
        NightBook book = Edges.book(Edges.BUSY);
        is(0, book.keep(d, 0, k));
        is(-11, book.weight(d));
        is(-11, book.toss(d));
        is(Edges.NO_ELEMENT, Edges.element(book, d, 0));
      }
    }
  }

  static void promise25KeepLawMustBeThere() {
    refusesOutside(0, 3, Edges.BUSY, (book, k) -> book.keep(ON_BILL, LAW, k));
    refusesOutside(0, 11, Edges.FULL, (book, k) -> book.keep(0, LAW, k));
    answers(0, Edges.BUSY, book -> book.keep(ON_BILL, LAW, 0));
    answers(0, Edges.BUSY, book -> book.keep(ON_BILL, LAW, 3));
    NightBook full = Edges.book(Edges.FULL);
    is(0, full.keep(0, LAW, 11));
    is(3, full.toss(0));
  }

  static void promise25KeepMarkMustBeThere() {
    refusesOutside(0, 10, Edges.BUSY, (book, k) -> book.keep(ON_LAW, MARK, k));
    refusesOutside(0, 79, Edges.FULL, (book, k) -> book.keep(0, MARK, k));
    NightBook full = Edges.book(Edges.FULL);
    is(0, full.keep(0, MARK, 78));
    is(178, full.toss(0));
    is(0, full.keep(0, MARK, 0));
    is(100, full.toss(0));
    is(0, full.keep(0, MARK, 79));
    is(-15, full.toss(0));
  }

  static void promise25KeepBytesOfAPersonThatMustBeThere() {
    refusesOutside(0, 4, Edges.BUSY, (book, k) -> book.keep(ON_LAW, BYTES, k));
    refusesOutside(0, 5, Edges.FULL, (book, k) -> book.keep(0, BYTES, k));
    answers(0, Edges.BUSY, book -> book.keep(ON_LAW, BYTES, 0));
    answers(0, Edges.BUSY, book -> book.keep(ON_LAW, BYTES, 4));
  }

  static void promise25KeepShortsOfAPersonThatMustBeThere() {
    refusesOutside(0, 4, Edges.BUSY, (book, k) -> book.keep(ON_LAW, SHORTS, k));
    refusesOutside(0, 5, Edges.FULL, (book, k) -> book.keep(0, SHORTS, k));
    answers(0, Edges.BUSY, book -> book.keep(ON_LAW, SHORTS, 0));
    answers(0, Edges.BUSY, book -> book.keep(ON_LAW, SHORTS, 4));
  }

  static void promise25KeepBytesAbove127Less256() {
    NightBook book = new NightBook();
    book.person(0, 0);
    int[] lands = {1, 126, 127, 128, 129, 254, 255};
    int[] bytes = {1, 126, 127, -128, -127, -2, -1};
    for (int i = 0; i < lands.length; i++) {
      book.span(0, i, i, lands[i]);
    }
    book.keep(0, BYTES, 0);
    row(book, 0, bytes);
  }

  static void promise25KeepBytesOf400Days() {
    NightBook book = new NightBook();
    book.person(0, 0);
    book.slept(0, 0, 0, false);
    book.slept(0, 399, 7, false);
    book.keep(0, BYTES, 0);
    is(1, book.element(0, 0));
    is(-1, book.element(0, 1));
    is(-1, book.element(0, 398));
    is(-128, book.element(0, 399));
    is(Edges.NO_ELEMENT, Edges.element(book, 0, 400));
  }

  static void promise25KeepShortsOf8Lands() {
    NightBook book = new NightBook();
    book.person(0, 0);
    book.span(0, 0, 399, 129);
    book.stamp(0, 5, 5, 7);
    book.keep(0, SHORTS, 0);
    row(book, 0, 400, 0, 0, 0, 0, 0, 0, 399);
    is(Edges.NO_ELEMENT, Edges.element(book, 0, 8));
  }

  static void promise25KeepInPlaceOfWhatWasHeld() {
    for (int d = 0; d < 8; d++) {
      NightBook book = Edges.book(Edges.BUSY);
      is(0, book.keep(d, MARK, 8));
      is(108, book.toss(d));
      is(0, book.keep(d, LAW, 3));
      is(3, book.toss(d));
      is(0, book.keep(d, SHORTS, 4));
      is(-12, book.toss(d));
      is(400, book.element(d, 7));
      is(0, book.keep(d, BYTES, 3));
      is(-128, book.element(d, 399));
    }
  }

  static void promise25KeepRowStaysAsItWas() {
    NightBook book = Edges.book(Edges.BUSY);
    book.keep(0, BYTES, 2);
    book.keep(1, SHORTS, 2);
    book.slept(2, 77, 3, false);
    is(-1, book.element(0, 77));
    is(400, book.element(1, 0));
  }

  // ---- 26

  static void promise26MakeShelfFrom0To7() {
    refusesOutside(0, 7, Edges.BUSY, (book, d) -> book.make(d, BYTES, 5));
    refusesOutside(0, 7, Edges.BUSY, (book, d) -> book.make(d, SHORTS, 5));
    answers(0, Edges.BUSY, book -> book.make(0, BYTES, 5));
    answers(0, Edges.BUSY, book -> book.make(7, SHORTS, 5));
  }

  static void promise26MakeWhat3And4() {
    refusesOutside(3, 4, Edges.BUSY, (book, what) -> book.make(0, what, 5));
    for (int what = -1; what < 3; what++) {
      int w = what;
      refuses(-1, Edges.BUSY, book -> book.make(0, w, 5));
    }
  }

  static void promise26MakeSizeUpTo60() {
    for (int what = 3; what < 5; what++) {
      int w = what;
      refuses(-1, Edges.BUSY, book -> book.make(0, w, 61));
      refuses(-1, Edges.BUSY, book -> book.make(0, w, HIGH));
      NightBook book = Edges.book(Edges.BUSY);
      is(0, book.make(0, w, 60));
      for (int i = 0; i < 60; i++) {
        is(0, book.element(0, i));
      }
      is(Edges.NO_ELEMENT, Edges.element(book, 0, 60));
    }
  }

  static void promise26MakeSizeBelow0() {
    for (int what = 3; what < 5; what++) {
      int w = what;
      refuses(-14, Edges.BUSY, book -> book.make(0, w, -1));
      refuses(-14, Edges.BUSY, book -> book.make(ON_NOTHING, w, LOW));
    }
  }

  static void promise26MakeSize0() {
    for (int what = 3; what < 5; what++) {
      NightBook book = Edges.book(Edges.BUSY);
      is(0, book.make(0, what, 0));
      is(-12, book.weight(0));
      is(-12, book.toss(0));
      is(Edges.NO_ELEMENT, Edges.element(book, 0, 0));
      is(0, book.copy(0, 0, 0, 0, 0));
    }
  }

  static void promise26MakeMinus1AheadOfMinus14() {
    refuses(-1, Edges.BUSY, book -> book.make(8, BYTES, -1));
    refuses(-1, Edges.BUSY, book -> book.make(-1, SHORTS, -1));
    refuses(-1, Edges.BUSY, book -> book.make(0, 2, -1));
    refuses(-1, Edges.BUSY, book -> book.make(0, 5, LOW));
  }

  static void promise26MakeInPlaceOfWhatWasHeld() {
    NightBook book = powers();
    is(0, book.make(0, BYTES, 2));
    row(book, 0, 0, 0);
    is(Edges.NO_ELEMENT, Edges.element(book, 0, 2));
  }

  // ---- 27

  static void promise27ElementNoSuchShelf() {
    for (int d : new int[] {LOW, -1, 8, HIGH}) {
      refuses(Edges.NO_SHELF, Edges.BUSY, book -> Edges.element(book, d, 0));
    }
  }

  static void promise27ElementNothingIsHeld() {
    refuses(Edges.NO_ELEMENT, Edges.BUSY, book -> Edges.element(book, ON_NOTHING, 0));
  }

  static void promise27ElementNoRow() {
    refuses(Edges.NO_ELEMENT, Edges.BUSY, book -> Edges.element(book, ON_LAW, 0));
    refuses(Edges.NO_ELEMENT, Edges.BUSY, book -> Edges.element(book, ON_BILL, 0));
  }

  static void promise27ElementNoSuchPlace() {
    int[] shelves = {ON_BYTES, ON_SHORTS, ON_5_BYTES, ON_60_SHORTS};
    int[] sizes = {400, 8, 5, 60};
    for (int k = 0; k < 4; k++) {
      int d = shelves[k];
      for (int i : new int[] {LOW, -1, sizes[k], HIGH}) {
        refuses(Edges.NO_ELEMENT, Edges.BUSY, book -> Edges.element(book, d, i));
      }
      Edges.changesNothing(Edges.book(Edges.BUSY).element(d, 0), Edges.BUSY, book -> book.element(d, 0));
      is(1, Edges.element(Edges.book(Edges.BUSY), d, sizes[k] - 1) != Edges.NO_ELEMENT ? 1 : 0);
    }
  }

  static void promise27ElementNoShelfAheadOfNoPlace() {
    refuses(Edges.NO_SHELF, Edges.BUSY, book -> Edges.element(book, 8, -1));
    refuses(Edges.NO_SHELF, Edges.BUSY, book -> Edges.element(book, -1, HIGH));
  }

  static void promise27ElementOfSign() {
    answers(3, Edges.BUSY, book -> book.element(ON_BYTES, 0));
    answers(-128, Edges.BUSY, book -> book.element(ON_BYTES, 200));
    answers(400, Edges.BUSY, book -> book.element(ON_SHORTS, 2));
    answers(0, Edges.BUSY, book -> book.element(ON_SHORTS, 7));
  }

  // ---- 28

  static void promise28CopyShelvesFrom0To7() {
    refusesOutside(0, 7, Edges.BUSY, (book, d) -> book.copy(d, 0, ON_BYTES, 0, 1));
    refusesOutside(0, 7, Edges.BUSY, (book, e) -> book.copy(ON_BYTES, 0, e, 0, 1));
  }

  static void promise28CopyWhereNothingIsHeldOnEither() {
    refuses(-11, Edges.BUSY, book -> book.copy(ON_NOTHING, 0, ON_BYTES, 0, 1));
    refuses(-11, Edges.BUSY, book -> book.copy(ON_BYTES, 0, ON_NOTHING, 0, 1));
    refuses(-11, Edges.BUSY, book -> book.copy(ON_NOTHING, 0, ON_NOTHING, 0, 0));
  }

  static void promise28CopyWhereOneIsNoRow() {
    for (int shelf : new int[] {ON_LAW, ON_BILL, ON_NEEDS}) {
      refuses(-12, Edges.BUSY, book -> book.copy(shelf, 0, ON_BYTES, 0, 1));
      refuses(-12, Edges.BUSY, book -> book.copy(ON_SHORTS, 0, shelf, 0, 1));
      refuses(-12, Edges.BUSY, book -> book.copy(shelf, 0, shelf, 0, 0));
    }
  }

  static void promise28CopyWhereTheyAreNotOfOneKind() {
    refuses(-12, Edges.BUSY, book -> book.copy(ON_BYTES, 0, ON_SHORTS, 0, 1));
    refuses(-12, Edges.BUSY, book -> book.copy(ON_60_SHORTS, 0, ON_5_BYTES, 0, 1));
    refuses(-12, Edges.BUSY, book -> book.copy(ON_5_BYTES, 0, ON_60_SHORTS, 0, 0));
  }

  static void promise28CopyBelow0() {
    for (int value : new int[] {-1, LOW}) {
      refuses(-13, Edges.BUSY, book -> book.copy(ON_BYTES, 0, ON_5_BYTES, 0, value));
      refuses(-13, Edges.BUSY, book -> book.copy(ON_BYTES, value, ON_5_BYTES, 0, 1));
      refuses(-13, Edges.BUSY, book -> book.copy(ON_BYTES, 0, ON_5_BYTES, value, 1));
      refuses(-13, Edges.BUSY, book -> book.copy(ON_BYTES, value, ON_5_BYTES, 0, 0));
      refuses(-13, Edges.BUSY, book -> book.copy(ON_BYTES, 0, ON_5_BYTES, value, 0));
      refuses(-13, Edges.BUSY, book -> book.copy(ON_BYTES, 5, ON_5_BYTES, 5, value));
    }
  }

  static void promise28CopyToTheEndOfEither() {
    answers(5, Edges.BUSY, book -> book.copy(ON_BYTES, 395, ON_5_BYTES, 0, 5));
    refuses(-13, Edges.BUSY, book -> book.copy(ON_BYTES, 396, ON_5_BYTES, 0, 5));
    answers(5, Edges.BUSY, book -> book.copy(ON_5_BYTES, 0, ON_BYTES, 395, 5));
    refuses(-13, Edges.BUSY, book -> book.copy(ON_5_BYTES, 0, ON_BYTES, 396, 5));
    refuses(-13, Edges.BUSY, book -> book.copy(ON_5_BYTES, 0, ON_BYTES, 0, 6));
    refuses(-13, Edges.BUSY, book -> book.copy(ON_BYTES, 0, ON_5_BYTES, 0, 6));
    answers(8, Edges.BUSY, book -> book.copy(ON_SHORTS, 0, ON_60_SHORTS, 52, 8));
    refuses(-13, Edges.BUSY, book -> book.copy(ON_SHORTS, 0, ON_60_SHORTS, 53, 8));
    refuses(-13, Edges.BUSY, book -> book.copy(ON_SHORTS, 1, ON_60_SHORTS, 0, 8));
  }

  static void promise28CopyOfNone() {
    Edges.changesNothing(0, Edges.BUSY, book -> book.copy(ON_BYTES, 400, ON_5_BYTES, 5, 0));
    Edges.changesNothing(0, Edges.BUSY, book -> book.copy(ON_BYTES, 0, ON_5_BYTES, 0, 0));
    refuses(-13, Edges.BUSY, book -> book.copy(ON_BYTES, 401, ON_5_BYTES, 0, 0));
    refuses(-13, Edges.BUSY, book -> book.copy(ON_BYTES, 0, ON_5_BYTES, 6, 0));
  }

  static void promise28CopyOfNumbersThatWrapAround() {
    refuses(-13, Edges.BUSY, book -> book.copy(ON_BYTES, 1, ON_5_BYTES, 1, HIGH));
    refuses(-13, Edges.BUSY, book -> book.copy(ON_BYTES, HIGH, ON_5_BYTES, 1, 1));
    refuses(-13, Edges.BUSY, book -> book.copy(ON_BYTES, 1, ON_5_BYTES, HIGH, 1));
    refuses(-13, Edges.BUSY, book -> book.copy(ON_BYTES, HIGH, ON_5_BYTES, HIGH, HIGH));
    refuses(-13, Edges.BUSY, book -> book.copy(ON_BYTES, LOW, ON_5_BYTES, LOW, LOW));
  }

  static void promise28CopyAsTheyAllWereBefore() {
    NightBook ahead = powers();
    is(5, ahead.copy(0, 0, 0, 1, 5));
    row(ahead, 0, 1, 1, 2, 4, 8, 16, 64, -1);
    NightBook back = powers();
    is(5, back.copy(0, 1, 0, 0, 5));
    row(back, 0, 2, 4, 8, 16, 32, 32, 64, -1);
    NightBook same = powers();
    is(400, same.copy(0, 0, 0, 0, 400));
    row(same, 0, 1, 2, 4, 8, 16, 32, 64, -1);
  }

  static void promise28CopyToAnotherRow() {
    NightBook book = powers();
    book.make(7, BYTES, 4);
    is(2, book.copy(0, 3, 7, 1, 2));
    row(book, 7, 0, 8, 16, 0);
    row(book, 0, 1, 2, 4, 8, 16, 32, 64, -1);
    is(1, book.copy(7, 0, 0, 6, 1));
    row(book, 0, 1, 2, 4, 8, 16, 32, 0, -1);
    row(book, 7, 0, 8, 16, 0);
  }

  static void promise28CopyMinus1AheadOfTheOthers() {
    refuses(-1, Edges.BUSY, book -> book.copy(8, 0, ON_NOTHING, 0, 1));
    refuses(-1, Edges.BUSY, book -> book.copy(ON_NOTHING, 0, -1, 0, 1));
    refuses(-1, Edges.BUSY, book -> book.copy(ON_LAW, 0, 8, 0, 1));
    refuses(-1, Edges.BUSY, book -> book.copy(ON_BYTES, -1, 8, -1, -1));
  }

  static void promise28CopyMinus11AheadOfMinus12AndMinus13() {
    refuses(-11, Edges.BUSY, book -> book.copy(ON_LAW, 0, ON_NOTHING, 0, 1));
    refuses(-11, Edges.BUSY, book -> book.copy(ON_NOTHING, 0, ON_LAW, 0, 1));
    refuses(-11, Edges.BUSY, book -> book.copy(ON_BYTES, 0, ON_NOTHING, 0, -1));
    refuses(-11, Edges.BUSY, book -> book.copy(ON_NOTHING, HIGH, ON_BYTES, 0, 1));
  }

  static void promise28CopyMinus12AheadOfMinus13() {
    refuses(-12, Edges.BUSY, book -> book.copy(ON_BYTES, 0, ON_SHORTS, 0, -1));
    refuses(-12, Edges.BUSY, book -> book.copy(ON_LAW, -1, ON_BYTES, 0, 1));
    refuses(-12, Edges.BUSY, book -> book.copy(ON_BYTES, 0, ON_BILL, 400, 1));
  }

  // ---- 29

  static void promise29WeightShelfFrom0To7() {
    refusesOutside(0, 7, Edges.BUSY, (book, d) -> book.weight(d));
    Edges.changesNothing(13, Edges.BUSY, book -> book.weight(ON_LAW));
    refuses(-11, Edges.BUSY, book -> book.weight(ON_NOTHING));
  }

  static void promise29WeightOfARow() {
    for (int shelf : new int[] {ON_BYTES, ON_SHORTS, ON_5_BYTES, ON_60_SHORTS}) {
      refuses(-12, Edges.BUSY, book -> book.weight(shelf));
    }
  }

  static void promise29WeightOfLawsOfTheLeastAndTheMost() {
    int[] least = {10, 111, 13, 226};
    int[] most = {210, 311, 412, 626};
    for (int kind = 0; kind < 4; kind++) {
      NightBook book = new NightBook();
      book.law(10 * kind, 0, 1);
      book.law(10 * kind + 7, 200, 200);
      book.keep(0, LAW, 0);
      book.keep(1, LAW, 1);
      is(least[kind], book.weight(0));
      is(most[kind], book.weight(1));
    }
  }

  static void promise29WeightOfStretchAndAbsentDoesNotLookAtW() {
    for (int w : new int[] {LOW, -1, 0, 200, HIGH}) {
      NightBook book = new NightBook();
      book.law(10, 5, w);
      book.law(30, 5, w);
      book.keep(0, LAW, 0);
      book.keep(1, LAW, 1);
      is(116, book.weight(0));
      is(236, book.weight(1));
    }
  }

  static void promise29WeightOfMarksOfOneNightAndOfAll() {
    NightBook book = new NightBook();
    book.person(0, 0);
    book.span(0, 5, 5, 255);
    book.span(0, 0, 399, 255);
    book.slept(0, 5, 0, false);
    book.stamp(0, 7, 7, 0);
    book.stamp(0, 0, 399, 7);
    book.slept(0, 5, 0, true);
    int[] due = {2, 401, 52, 72, 471, 104};
    for (int mark = 0; mark < due.length; mark++) {
      book.keep(mark, MARK, mark);
      is(due[mark], book.weight(mark));
    }
  }

  static void promise29WeightOfADroppedMark() {
    NightBook book = Edges.book(Edges.BUSY);
    book.keep(0, MARK, 7);
    is(471, book.weight(0));
    book.drop(7, false);
    is(471, book.weight(0));
  }

  // ---- 30

  static void promise30TossShelfFrom0To7() {
    refusesOutside(0, 7, Edges.BUSY, (book, d) -> book.toss(d));
    Edges.changesNothing(0, Edges.BUSY, book -> book.toss(ON_LAW));
    Edges.changesNothing(101, Edges.BUSY, book -> book.toss(ON_BILL));
    refuses(-11, Edges.BUSY, book -> book.toss(ON_NOTHING));
  }

  static void promise30TossOfARow() {
    for (int shelf : new int[] {ON_BYTES, ON_SHORTS, ON_5_BYTES, ON_60_SHORTS}) {
      refuses(-12, Edges.BUSY, book -> book.toss(shelf));
    }
  }

  static void promise30TossOfNeedsAndWords() {
    refuses(-15, Edges.BUSY, book -> book.toss(ON_NEEDS));
    NightBook book = Edges.book(Edges.BUSY);
    book.keep(0, MARK, 3);
    is(-15, book.toss(0));
    book.keep(0, MARK, 9);
    is(-15, book.toss(0));
  }

  static void promise30TossOfLawsIsTheirLand() {
    for (int kind = 0; kind < 4; kind++) {
      for (int land = 0; land < 8; land++) {
        NightBook book = new NightBook();
        book.law(10 * kind + land, 3, 3);
        book.keep(0, LAW, 0);
        is(kind == 2 ? -15 : land, book.toss(0));
      }
    }
  }

  static void promise30TossOfMarksIs100AndTheirNumber() {
    NightBook book = Edges.book(Edges.FULL);
    for (int mark = 0; mark < 80; mark++) {
      book.keep(0, MARK, mark);
      is(mark % 4 == 3 ? -15 : 100 + mark, book.toss(0));
    }
  }

  static void promise30TossOfADroppedMarkAndOneThatCame() {
    NightBook book = Edges.book(Edges.BUSY);
    book.keep(0, MARK, 7);
    is(107, book.toss(0));
    book.keep(0, MARK, 10);
    is(110, book.toss(0));
  }

  static void promise30TossLeavesTheShelfAsItWas() {
    NightBook book = Edges.book(Edges.BUSY);
    is(101, book.toss(ON_BILL));
    is(101, book.toss(ON_BILL));
    is(52, book.weight(ON_BILL));
  }
}
