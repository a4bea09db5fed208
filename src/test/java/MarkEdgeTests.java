/** The edges of promises 1 to 11, people and marks: each test bears its promise's number and name. */
public final class MarkEdgeTests {
  private static final int LOW = Edges.LOW;
  private static final int HIGH = Edges.HIGH;

  // Two people whose bills of night 50 (marks 0 and 1) can't be one person's.
  private static final Edges.Scene APART = book -> {
    book.person(0, 1);
    book.person(2, 3);
    book.slept(0, 50, 0, false);
    book.slept(1, 50, 1, false);
    book.slept(1, 60, 1, false);
  };

  // Person 1 is joined to person 0, whose night 50 is in land 0; 80 marks.
  private static final Edges.Scene FULL_AND_JOINED = book -> {
    book.person(0, 1);
    book.person(2, 3);
    for (int i = 0; i < 80; i++) {
      book.slept(i % 2, 50, 0, false);
    }
    book.join(0, 1);
  };

  // Two words of night 5 that can't both count, under a span of all lands (mark 2).
  private static final Edges.Scene WORDS_UNDER_SPAN = book -> {
    book.person(0, 1);
    book.slept(0, 5, 1, true);
    book.slept(0, 7, 3, true);
    book.span(0, 3, 6, 255);
    book.slept(0, 5, 2, true);
  };

  public static void main(String[] args) {
    Edges.run(MarkEdgeTests.class, 1, 11);
  }

  private static void is(long want, long got) {
    Edges.is(want, got);
  }

  private static void answers(long want, Edges.Scene scene, Edges.Call call) {
    Edges.answers(want, scene, call);
  }

  private static void refuses(long want, Edges.Scene scene, Edges.Call call) {
    Edges.refuses(want, scene, call);
  }

  private static void refusesOutside(int low, int high, Edges.Scene scene, Edges.CallWith call) {
    Edges.refusesOutside(low, high, scene, call);
  }

  /** As many marks as told, of one person, that hinder nothing. */
  private static Edges.Scene marks(int number) {
    return book -> {
      book.person(0, 1);
      for (int i = 0; i < number; i++) {
        book.span(0, 0, 399, 255);
      }
    };
  }

  // ---- 1

  static void promise01NewObjectHasNoPeople() {
    answers(0, Edges.EMPTY, book -> book.count(0));
    refuses(-1, Edges.EMPTY, book -> book.span(0, 0, 0, 1));
    refuses(-1, Edges.EMPTY, book -> book.slept(0, 0, 0, false));
    refuses(-1, Edges.EMPTY, book -> book.slept(0, 0, 0, true));
    refuses(-1, Edges.EMPTY, book -> book.stamp(0, 0, 0, 0));
    refuses(-1, Edges.EMPTY, book -> book.can(0, 0));
    refuses(-1, Edges.EMPTY, book -> book.nights(0, 0, 0, 0, true));
    refuses(-1, Edges.EMPTY, book -> book.sure(0, 0, 0));
    refuses(-1, Edges.EMPTY, book -> book.join(0, 1));
    refuses(-1, Edges.EMPTY, book -> book.broken(0));
    refuses(-1, Edges.EMPTY, book -> book.free(0, 0, 0, 0));
    refuses(-1, Edges.EMPTY, book -> book.trip(0, 0, 0, 0, 0));
    refuses(-1, Edges.EMPTY, book -> book.claims(0, 0, 0));
    refuses(-1, Edges.EMPTY, book -> book.decides(0, 1, 0, 0));
    refuses(-1, Edges.EMPTY, book -> book.taxed(0, 0));
    refuses(-1, Edges.EMPTY, book -> book.keep(0, 3, 0));
    refuses(-1, Edges.EMPTY, book -> book.keep(0, 4, 0));
    answers(0, Edges.EMPTY, book -> book.quarrels());
    answers(0, Edges.EMPTY, book -> book.person(0, 0));
  }

  static void promise01NewObjectHasNobodyJoined() {
    answers(0, Edges.EMPTY, book -> book.count(5));
    answers(0, Edges.ONE, book -> book.count(5));
  }

  static void promise01NewObjectHasNoMarks() {
    answers(0, Edges.EMPTY, book -> book.count(1));
    answers(0, Edges.EMPTY, book -> book.count(4));
    refuses(-1, Edges.EMPTY, book -> book.mark(0, 0));
    refuses(-1, Edges.EMPTY, book -> book.drop(0, true));
    refuses(-1, Edges.EMPTY, book -> book.drop(0, false));
    refuses(-1, Edges.EMPTY, book -> book.keep(0, 2, 0));
    answers(0, Edges.ONE, book -> book.span(0, 0, 0, 1));
  }

  static void promise01NewObjectHasNoLaws() {
    answers(0, Edges.EMPTY, book -> book.count(2));
    refuses(-1, Edges.ONE, book -> book.kept(0, 0, 0));
    refuses(-1, Edges.ONE, book -> book.first(0, 0, 0, true));
    refuses(-1, Edges.EMPTY, book -> book.keep(0, 1, 0));
    answers(0, Edges.ONE, book -> book.broken(0));
    answers(0, Edges.EMPTY, book -> book.law(0, 0, 1));
  }

  static void promise01NewObjectHasNoTreaties() {
    answers(0, Edges.EMPTY, book -> book.count(3));
    NightBook book = Edges.book(Edges.ONE);
    for (int land = 0; land < 8; land++) {
      for (int other = 0; other < land; other++) {
        is(-2, book.decides(land, other, 0, 0));
        is(0, book.treaty(land, other, 1));
      }
    }
    is(28, book.count(3));
  }

  static void promise01NewObjectHoldsNothingOnShelves() {
    for (int shelf = 0; shelf < 8; shelf++) {
      int d = shelf;
      refuses(-11, Edges.EMPTY, book -> book.weight(d));
      refuses(-11, Edges.EMPTY, book -> book.toss(d));
      refuses(-11, Edges.EMPTY, book -> book.copy(d, 0, d, 0, 0));
      refuses(Edges.NO_ELEMENT, Edges.EMPTY, book -> Edges.element(book, d, 0));
    }
  }

  static void promise01NewObjectHas51ClaimNights() {
    for (int land = 0; land < 8; land++) {
      int l = land;
      answers(51, Edges.EMPTY, book -> book.claim(l, 1));
    }
  }

  static void promise01NewObjectIsApartFromOthers() {
    NightBook busy = Edges.book(Edges.BUSY);
    NightBook other = new NightBook();
    for (int what = 0; what < 6; what++) {
      is(0, other.count(what));
    }
    is(5, busy.count(0));
  }

  static void promise01NewObjectServes512Calls() {
    NightBook book = new NightBook();
    book.person(0, 1);
    book.span(0, 0, 399, 128);
    for (int call = 3; call < 512; call++) {
      is(128, book.can(0, call % 400));
    }
    is(1, book.slept(0, 399, 7, false));
  }

  // ---- 2

  static void promise02PersonHomeFrom0To7() {
    refusesOutside(0, 7, Edges.EMPTY, (book, home) -> book.person(home, 3));
    refusesOutside(0, 7, Edges.BUSY, (book, home) -> book.person(home, 3));
    answers(0, Edges.EMPTY, book -> book.person(0, 3));
    answers(0, Edges.EMPTY, book -> book.person(7, 3));
  }

  static void promise02PersonPassportFrom0To7() {
    refusesOutside(0, 7, Edges.EMPTY, (book, passport) -> book.person(3, passport));
    refusesOutside(0, 7, Edges.BUSY, (book, passport) -> book.person(3, passport));
    answers(0, Edges.EMPTY, book -> book.person(3, 0));
    answers(0, Edges.EMPTY, book -> book.person(3, 7));
  }

  static void promise02PersonNumbersAsTheyCome() {
    NightBook book = new NightBook();
    for (int i = 0; i < 6; i++) {
      is(-1, book.person(8, i));
      is(-1, book.person(i, -1));
      is(i, book.person(i, 7));
      is(i + 1, book.count(0));
    }
  }

  static void promise02PersonSixthIsTakenSeventhRefused() {
    answers(5, Edges.BUSY, book -> book.person(0, 0));
    refuses(-2, Edges.FULL, book -> book.person(0, 0));
    refuses(-2, Edges.FULL, book -> book.person(7, 7));
  }

  static void promise02PersonMinus1AheadOfMinus2() {
    refusesOutside(0, 7, Edges.FULL, (book, home) -> book.person(home, 0));
    refusesOutside(0, 7, Edges.FULL, (book, passport) -> book.person(0, passport));
  }

  // ---- 3

  static void promise03SpanPersonMustBeThere() {
    refusesOutside(0, 4, Edges.BUSY, (book, person) -> book.span(person, 300, 310, 8));
    answers(11, Edges.BUSY, book -> book.span(0, 300, 310, 8));
    answers(11, Edges.BUSY, book -> book.span(3, 300, 310, 8));
  }

  static void promise03SpanFromDay0() {
    refuses(-1, Edges.BUSY, book -> book.span(2, -1, 399, 8));
    refuses(-1, Edges.BUSY, book -> book.span(2, LOW, 399, 8));
    refuses(-1, Edges.BUSY, book -> book.span(2, -2, -1, 8));
    NightBook book = Edges.book(Edges.BUSY);
    is(11, book.span(2, 0, 5, 8));
    is(8, book.can(2, 0));
  }

  static void promise03SpanToDay399() {
    refuses(-1, Edges.BUSY, book -> book.span(2, 0, 400, 8));
    refuses(-1, Edges.BUSY, book -> book.span(2, 0, HIGH, 8));
    refuses(-1, Edges.BUSY, book -> book.span(2, 400, 400, 8));
    refuses(-1, Edges.BUSY, book -> book.span(2, LOW, HIGH, 8));
    NightBook book = Edges.book(Edges.BUSY);
    is(11, book.span(2, 399, 399, 8));
    is(255, book.can(2, 398));
    is(8, book.can(2, 399));
  }

  static void promise03SpanOfAllDays() {
    NightBook book = Edges.book(Edges.ONE);
    is(0, book.span(0, 0, 399, 128));
    is(400, book.sure(0, 0, 399));
  }

  static void promise03SpanFromAboveTo() {
    refuses(-1, Edges.BUSY, book -> book.span(2, 6, 5, 8));
    refuses(-1, Edges.BUSY, book -> book.span(2, 399, 0, 8));
    NightBook book = Edges.book(Edges.BUSY);
    is(11, book.span(2, 5, 5, 8));
    is(255, book.can(2, 4));
    is(8, book.can(2, 5));
    is(255, book.can(2, 6));
  }

  static void promise03SpanBothDaysAreWithIt() {
    NightBook book = Edges.book(Edges.ONE);
    book.span(0, 10, 20, 6);
    is(255, book.can(0, 9));
    is(6, book.can(0, 10));
    is(6, book.can(0, 20));
    is(255, book.can(0, 21));
  }

  static void promise03SpanLandsFrom1To255() {
    refusesOutside(1, 255, Edges.BUSY, (book, lands) -> book.span(2, 5, 6, lands));
    refuses(-1, Edges.BUSY, book -> book.span(2, 5, 6, -1));
    refuses(-1, Edges.BUSY, book -> book.span(2, 5, 6, 257));
    for (int lands : new int[] {1, 128, 255}) {
      NightBook book = Edges.book(Edges.BUSY);
      is(11, book.span(2, 5, 6, lands));
      is(lands, book.can(2, 5));
    }
  }

  static void promise03SpanEightiethIsTakenNextRefused() {
    answers(79, marks(79), book -> book.span(0, 0, 0, 1));
    refuses(-2, marks(80), book -> book.span(0, 0, 0, 1));
    refuses(-2, Edges.FULL, book -> book.span(4, 399, 399, 255));
  }

  static void promise03SpanDroppedMarksStillTakePlaces() {
    NightBook book = Edges.book(marks(80));
    for (int i = 0; i < 80; i++) {
      book.drop(i, true);
    }
    is(-2, book.span(0, 0, 0, 1));
    is(80, book.count(1));
  }

  static void promise03SpanOfOneJoined() {
    refuses(-3, Edges.BUSY, book -> book.span(4, 300, 310, 8));
    refuses(-3, Edges.BUSY, book -> book.span(4, 0, 399, 255));
    answers(11, Edges.BUSY, book -> book.span(0, 300, 310, 8));
  }

  static void promise03SpanThatLeavesNone() {
    refuses(-4, APART, book -> book.span(0, 50, 50, 2));
    refuses(-4, APART, book -> book.span(0, 50, 99, 254));
    refuses(-4, APART, book -> book.span(0, 0, 50, 254));
    refuses(-4, APART, book -> book.span(0, 0, 399, 254));
    answers(3, APART, book -> book.span(0, 51, 99, 254));
    answers(3, APART, book -> book.span(0, 0, 49, 254));
    answers(3, APART, book -> book.span(0, 0, 399, 1));
  }

  static void promise03SpanThatLeavesNoneOnTheEndsOfDays() {
    for (int day = 0; day < 400; day += 399) {
      int d = day;
      Edges.Scene scene = book -> {
        book.person(0, 0);
        book.slept(0, d, 3, false);
      };
      refuses(-4, scene, book -> book.span(0, 0, 399, 247));
      answers(1, scene, book -> book.span(0, 0, 399, 8));
    }
  }

  static void promise03SpanThatLeavesOneLand() {
    NightBook book = Edges.book(Edges.ONE);
    book.span(0, 0, 399, 3);
    is(1, book.span(0, 0, 399, 6));
    is(2, book.can(0, 0));
    is(-4, book.span(0, 0, 399, 253));
  }

  static void promise03SpanSetsWordsAside() {
    NightBook book = Edges.book(Edges.ONE);
    book.slept(0, 5, 1, true);
    is(1, book.span(0, 5, 5, 4));
    is(4, book.can(0, 5));
  }

  static void promise03SpanMinus1AheadOfTheOthers() {
    refuses(-1, Edges.FULL, book -> book.span(0, 6, 5, 1));
    refuses(-1, Edges.FULL, book -> book.span(0, 0, 0, 0));
    refuses(-1, Edges.FULL, book -> book.span(6, 0, 0, 1));
    refuses(-1, Edges.BUSY, book -> book.span(4, 0, 0, 256));
    refuses(-1, Edges.BUSY, book -> book.span(4, 0, 400, 1));
    refuses(-1, APART, book -> book.span(0, 50, 400, 2));
    refuses(-1, FULL_AND_JOINED, book -> book.span(1, -1, 50, 2));
  }

  static void promise03SpanMinus2AheadOfMinus3AndMinus4() {
    refuses(-2, FULL_AND_JOINED, book -> book.span(1, 0, 0, 1));
    refuses(-2, FULL_AND_JOINED, book -> book.span(0, 50, 50, 2));
    refuses(-2, FULL_AND_JOINED, book -> book.span(1, 50, 50, 2));
  }

  static void promise03SpanMinus3AheadOfMinus4() {
    refuses(-3, Edges.BUSY, book -> book.span(4, 200, 200, 1));
  }

  // ---- 4

  static void promise04SleptPersonMustBeThere() {
    for (boolean word : new boolean[] {false, true}) {
      refusesOutside(0, 4, Edges.BUSY, (book, person) -> book.slept(person, 300, 1, word));
      answers(11, Edges.BUSY, book -> book.slept(0, 300, 1, word));
      answers(11, Edges.BUSY, book -> book.slept(3, 300, 1, word));
    }
  }

  static void promise04SleptDayFrom0To399() {
    for (boolean word : new boolean[] {false, true}) {
      refusesOutside(0, 399, Edges.BUSY, (book, day) -> book.slept(2, day, 1, word));
      for (int day = 0; day < 400; day += 399) {
        NightBook book = Edges.book(Edges.BUSY);
        is(11, book.slept(2, day, 1, word));
        is(2, book.can(2, day));
        is(1, book.sure(2, 0, 399));
      }
    }
  }

  static void promise04SleptLandFrom0To7() {
    for (boolean word : new boolean[] {false, true}) {
      refusesOutside(0, 7, Edges.BUSY, (book, land) -> book.slept(2, 300, land, word));
      refuses(-1, Edges.BUSY, book -> book.slept(2, 300, 32, word));
      for (int land = 0; land < 8; land += 7) {
        NightBook book = Edges.book(Edges.BUSY);
        is(11, book.slept(2, 300, land, word));
        is(1 << land, book.can(2, 300));
      }
    }
  }

  static void promise04SleptEightiethIsTakenNextRefused() {
    for (boolean word : new boolean[] {false, true}) {
      answers(79, marks(79), book -> book.slept(0, 0, 0, word));
      refuses(-2, marks(80), book -> book.slept(0, 0, 0, word));
      refuses(-2, Edges.FULL, book -> book.slept(4, 399, 0, word));
    }
  }

  static void promise04SleptOfOneJoined() {
    refuses(-3, Edges.BUSY, book -> book.slept(4, 300, 1, false));
    refuses(-3, Edges.BUSY, book -> book.slept(4, 300, 1, true));
  }

  static void promise04SleptBillThatLeavesNone() {
    refuses(-4, APART, book -> book.slept(0, 50, 1, false));
    answers(3, APART, book -> book.slept(0, 50, 0, false));
    answers(3, APART, book -> book.slept(0, 49, 1, false));
    answers(3, APART, book -> book.slept(0, 51, 1, false));
  }

  static void promise04SleptBillAgainstAWord() {
    NightBook book = Edges.book(Edges.ONE);
    book.slept(0, 5, 1, true);
    is(1, book.slept(0, 5, 2, false));
    is(4, book.can(0, 5));
  }

  static void promise04SleptWordThatCountsAndLeavesNone() {
    Edges.Scene word = book -> {
      book.person(0, 1);
      book.slept(0, 5, 1, true);
    };
    refuses(-4, word, book -> book.slept(0, 5, 2, true));
    answers(1, word, book -> book.slept(0, 5, 1, true));
    answers(1, word, book -> book.slept(0, 4, 2, true));
    answers(1, word, book -> book.slept(0, 6, 2, true));
  }

  static void promise04SleptWordThatDoesNotCountIsTaken() {
    NightBook billed = Edges.book(APART);
    is(3, billed.slept(0, 50, 5, true));
    is(1, billed.can(0, 50));
    NightBook spanned = Edges.book(WORDS_UNDER_SPAN);
    is(4, spanned.slept(0, 5, 7, true));
    is(255, spanned.can(0, 5));
    NightBook stamped = Edges.book(Edges.ONE);
    stamped.stamp(0, 5, 5, 7);
    is(1, stamped.slept(0, 5, 7, true));
    is(127, stamped.can(0, 5));
  }

  static void promise04SleptWordCountsWhereTheOtherMarkWasDropped() {
    Edges.Scene dropped = book -> {
      book.person(0, 1);
      book.slept(0, 5, 1, true);
      book.span(0, 5, 5, 255);
      book.drop(1, true);
    };
    answers(2, dropped, book -> book.can(0, 5));
    refuses(-4, dropped, book -> book.slept(0, 5, 2, true));
  }

  static void promise04SleptWordCountsBesideMarksOfOthersAndOtherNights() {
    NightBook book = Edges.book(Edges.ONE);
    book.person(0, 1);
    book.span(1, 0, 399, 255);
    book.span(0, 0, 4, 255);
    book.span(0, 6, 399, 255);
    is(3, book.slept(0, 5, 2, true));
    is(4, book.can(0, 5));
  }

  static void promise04SleptMinus1AheadOfTheOthers() {
    for (boolean word : new boolean[] {false, true}) {
      refuses(-1, Edges.FULL, book -> book.slept(0, 400, 0, word));
      refuses(-1, Edges.FULL, book -> book.slept(6, 0, 0, word));
      refuses(-1, Edges.BUSY, book -> book.slept(4, 0, 8, word));
      refuses(-1, FULL_AND_JOINED, book -> book.slept(1, -1, 1, word));
      refuses(-1, APART, book -> book.slept(0, 50, -1, word));
    }
  }

  static void promise04SleptMinus2AheadOfMinus3AndMinus4() {
    for (boolean word : new boolean[] {false, true}) {
      refuses(-2, FULL_AND_JOINED, book -> book.slept(1, 0, 0, word));
      refuses(-2, FULL_AND_JOINED, book -> book.slept(0, 50, 1, word));
      refuses(-2, FULL_AND_JOINED, book -> book.slept(1, 50, 1, word));
    }
  }

  static void promise04SleptMinus3AheadOfMinus4() {
    refuses(-3, Edges.BUSY, book -> book.slept(4, 200, 0, false));
    refuses(-3, Edges.BUSY, book -> book.slept(4, 200, 0, true));
  }

  // ---- 5

  static void promise05StampPersonMustBeThere() {
    refusesOutside(0, 4, Edges.BUSY, (book, person) -> book.stamp(person, 300, 310, 1));
    answers(11, Edges.BUSY, book -> book.stamp(0, 300, 310, 1));
    answers(11, Edges.BUSY, book -> book.stamp(3, 300, 310, 1));
  }

  static void promise05StampFromDay0() {
    refuses(-1, Edges.BUSY, book -> book.stamp(2, -1, 399, 1));
    refuses(-1, Edges.BUSY, book -> book.stamp(2, LOW, 399, 1));
    NightBook book = Edges.book(Edges.BUSY);
    is(11, book.stamp(2, 0, 0, 1));
    is(253, book.can(2, 0));
    is(255, book.can(2, 1));
  }

  static void promise05StampToDay399() {
    refuses(-1, Edges.BUSY, book -> book.stamp(2, 0, 400, 1));
    refuses(-1, Edges.BUSY, book -> book.stamp(2, 0, HIGH, 1));
    refuses(-1, Edges.BUSY, book -> book.stamp(2, 400, 400, 1));
    NightBook book = Edges.book(Edges.BUSY);
    is(11, book.stamp(2, 399, 399, 1));
    is(255, book.can(2, 398));
    is(253, book.can(2, 399));
  }

  static void promise05StampFromAboveTo() {
    refuses(-1, Edges.BUSY, book -> book.stamp(2, 6, 5, 1));
    refuses(-1, Edges.BUSY, book -> book.stamp(2, 399, 0, 1));
    answers(11, Edges.BUSY, book -> book.stamp(2, 5, 5, 1));
  }

  static void promise05StampLandFrom0To7() {
    refusesOutside(0, 7, Edges.BUSY, (book, land) -> book.stamp(2, 5, 6, land));
    refuses(-1, Edges.BUSY, book -> book.stamp(2, 5, 6, 32));
    for (int land = 0; land < 8; land += 7) {
      NightBook book = Edges.book(Edges.BUSY);
      is(11, book.stamp(2, 5, 6, land));
      is(255 - (1 << land), book.can(2, 5));
    }
  }

  static void promise05StampEightiethIsTakenNextRefused() {
    answers(79, marks(79), book -> book.stamp(0, 0, 0, 1));
    refuses(-2, marks(80), book -> book.stamp(0, 0, 0, 1));
    refuses(-2, Edges.FULL, book -> book.stamp(4, 399, 399, 1));
  }

  static void promise05StampOfOneJoined() {
    refuses(-3, Edges.BUSY, book -> book.stamp(4, 300, 310, 1));
  }

  static void promise05StampThatLeavesNone() {
    refuses(-4, APART, book -> book.stamp(0, 50, 50, 0));
    refuses(-4, APART, book -> book.stamp(0, 50, 99, 0));
    refuses(-4, APART, book -> book.stamp(0, 0, 50, 0));
    answers(3, APART, book -> book.stamp(0, 51, 99, 0));
    answers(3, APART, book -> book.stamp(0, 0, 49, 0));
    answers(3, APART, book -> book.stamp(0, 0, 399, 1));
  }

  static void promise05StampsOfSevenLandsLeaveOne() {
    for (int land = 0; land < 8; land++) {
      int left = land;
      Edges.Scene seven = book -> {
        book.person(0, 1);
        for (int other = 0; other < 8; other++) {
          if (other != left) {
            book.stamp(0, 0, 399, other);
          }
        }
      };
      answers(1 << left, seven, book -> book.can(0, 0));
      answers(1 << left, seven, book -> book.can(0, 399));
      refuses(-4, seven, book -> book.stamp(0, 399, 399, left));
    }
  }

  static void promise05StampMinus1AheadOfTheOthers() {
    refuses(-1, Edges.FULL, book -> book.stamp(0, 6, 5, 1));
    refuses(-1, Edges.FULL, book -> book.stamp(0, 0, 0, 8));
    refuses(-1, Edges.BUSY, book -> book.stamp(4, 0, 0, -1));
    refuses(-1, Edges.BUSY, book -> book.stamp(4, 0, 400, 1));
    refuses(-1, APART, book -> book.stamp(0, -1, 50, 0));
  }

  static void promise05StampMinus2AheadOfMinus3AndMinus4() {
    refuses(-2, FULL_AND_JOINED, book -> book.stamp(1, 0, 0, 1));
    refuses(-2, FULL_AND_JOINED, book -> book.stamp(0, 50, 50, 0));
    refuses(-2, FULL_AND_JOINED, book -> book.stamp(1, 50, 50, 0));
  }

  static void promise05StampMinus3AheadOfMinus4() {
    refuses(-3, Edges.BUSY, book -> book.stamp(4, 200, 200, 7));
  }

  // ---- 6

  static void promise06DropMarkMustBeThere() {
    for (boolean is : new boolean[] {false, true}) {
      refusesOutside(0, 10, Edges.BUSY, (book, mark) -> book.drop(mark, is));
      refusesOutside(0, 79, Edges.FULL, (book, mark) -> book.drop(mark, is));
    }
    answers(1, Edges.BUSY, book -> book.drop(0, true));
    answers(1, Edges.BUSY, book -> book.drop(10, true));
    answers(1, Edges.FULL, book -> book.drop(79, true));
  }

  static void promise06DropAnswersWhetherItWasOtherwise() {
    NightBook book = Edges.book(Edges.BUSY);
    is(0, book.drop(0, false));
    is(1, book.drop(0, true));
    is(0, book.drop(0, true));
    is(1, book.drop(0, false));
    is(0, book.drop(0, false));
    Edges.changesNothing(0, Edges.BUSY, again -> again.drop(7, true));
    Edges.changesNothing(0, Edges.BUSY, again -> again.drop(6, false));
  }

  static void promise06DropOfADroppedOneIs0ThoughItCouldNotCome() {
    NightBook book = Edges.book(APART);
    book.drop(0, true);
    book.slept(0, 50, 4, false);
    is(0, book.drop(0, true));
    is(-4, book.drop(0, false));
    is(0, book.drop(0, true));
  }

  static void promise06DropAgainThatLeavesNone() {
    Edges.Scene scene = book -> {
      book.person(0, 1);
      book.span(0, 10, 20, 3);
      book.drop(0, true);
      book.slept(0, 20, 2, false);
    };
    refuses(-4, scene, book -> book.drop(0, false));
    Edges.Scene first = book -> {
      book.person(0, 1);
      book.stamp(0, 10, 20, 2);
      book.drop(0, true);
      book.slept(0, 10, 2, false);
    };
    refuses(-4, first, book -> book.drop(0, false));
  }

  static void promise06DropThatLetsWordsMeetLeavesNone() {
    refuses(-4, WORDS_UNDER_SPAN, book -> book.drop(2, true));
    NightBook book = Edges.book(WORDS_UNDER_SPAN);
    is(1, book.drop(0, true));
    is(1, book.drop(2, true));
    is(4, book.can(0, 5));
    is(-4, book.drop(0, false));
    is(1, book.drop(2, false));
    is(1, book.drop(0, false));
    is(255, book.can(0, 5));
  }

  static void promise06DropLeavesWordsThatAgree() {
    NightBook book = Edges.book(Edges.ONE);
    book.slept(0, 5, 1, true);
    book.slept(0, 5, 1, true);
    book.span(0, 5, 5, 255);
    is(1, book.drop(2, true));
    is(2, book.can(0, 5));
  }

  static void promise06DropOfTheLastOfSeveralLetsWordsCount() {
    NightBook book = Edges.book(Edges.ONE);
    book.slept(0, 5, 1, true);
    book.stamp(0, 5, 5, 1);
    book.span(0, 5, 5, 12);
    is(1, book.drop(1, true));
    is(12, book.can(0, 5));
    is(1, book.drop(2, true));
    is(2, book.can(0, 5));
  }

  static void promise06DropOfAMarkThatCameWithAJoin() {
    NightBook book = Edges.book(Edges.BUSY);
    is(128, book.can(0, 200));
    is(1, book.drop(10, true));
    is(255, book.can(0, 200));
    is(255, book.can(0, 260));
    is(1, book.drop(10, false));
    is(128, book.can(0, 260));
    is(255, book.can(4, 260));
  }

  // ---- 7

  static void promise07MarkMustBeThere() {
    for (int what = 0; what < 6; what++) {
      int w = what;
      refusesOutside(0, 10, Edges.BUSY, (book, mark) -> book.mark(mark, w));
    }
    refusesOutside(0, 79, Edges.FULL, (book, mark) -> book.mark(mark, 0));
    answers(0, Edges.BUSY, book -> book.mark(0, 0));
    answers(0, Edges.BUSY, book -> book.mark(10, 0));
    answers(3, Edges.FULL, book -> book.mark(79, 0));
  }

  static void promise07MarkWhatFrom0To5() {
    refusesOutside(0, 5, Edges.BUSY, (book, what) -> book.mark(0, what));
    answers(1, Edges.BUSY, book -> book.mark(7, 5));
    answers(2, Edges.BUSY, book -> book.mark(7, 0));
  }

  static void promise07MarkOfTheWidestAndNarrowest() {
    NightBook book = Edges.book(Edges.ONE);
    book.span(0, 0, 399, 255);
    book.span(0, 399, 399, 1);
    book.stamp(0, 0, 0, 0);
    book.stamp(0, 0, 0, 7);
    book.slept(0, 0, 1, false);
    book.slept(0, 399, 7, true);
    int[][] due = {{0, 0, 0, 399, 255, 0}, {0, 0, 399, 399, 1, 0}, {2, 0, 0, 0, 254, 0},
        {2, 0, 0, 0, 127, 0}, {1, 0, 0, 0, 2, 0}, {3, 0, 399, 399, 128, 0}};
    for (int mark = 0; mark < due.length; mark++) {
      for (int what = 0; what < 6; what++) {
        is(due[mark][what], book.mark(mark, what));
      }
    }
  }

  static void promise07MarkOfAPersonAsItIsNow() {
    NightBook book = Edges.book(Edges.BUSY);
    is(0, book.mark(10, 1));
    is(-1, book.join(1, 1));
    is(-3, book.join(1, 4));
    is(1, book.mark(5, 1));
    is(2, book.join(2, 3));
    is(2, book.mark(8, 1));
    is(2, book.mark(9, 1));
    is(2, book.mark(7, 1));
  }

  static void promise07MarkTellsTheSameWhenDropped() {
    NightBook book = Edges.book(Edges.BUSY);
    book.drop(2, true);
    int[] due = {2, 0, 6, 20, 253, 1};
    for (int what = 0; what < 6; what++) {
      is(due[what], book.mark(2, what));
    }
    book.drop(2, false);
    is(0, book.mark(2, 5));
  }

  // ---- 8

  static void promise08CanPersonMustBeThere() {
    refusesOutside(0, 4, Edges.BUSY, (book, person) -> book.can(person, 0));
    refusesOutside(0, 5, Edges.FULL, (book, person) -> book.can(person, 0));
    answers(3, Edges.BUSY, book -> book.can(0, 0));
    answers(255, Edges.BUSY, book -> book.can(4, 0));
  }

  static void promise08CanDayFrom0To399() {
    refusesOutside(0, 399, Edges.BUSY, (book, day) -> book.can(3, day));
    answers(128, Edges.BUSY, book -> book.can(3, 0));
    answers(128, Edges.BUSY, book -> book.can(3, 399));
    answers(255, Edges.BUSY, book -> book.can(3, 1));
    answers(255, Edges.BUSY, book -> book.can(3, 398));
  }

  static void promise08CanWithoutMarksIsAllLands() {
    answers(255, Edges.ONE, book -> book.can(0, 0));
    answers(255, Edges.ONE, book -> book.can(0, 399));
  }

  static void promise08CanOfAWordThatGivesWay() {
    answers(12, Edges.BUSY, book -> book.can(1, 50));
    answers(4, Edges.BUSY, book -> book.can(0, 30));
  }

  // ---- 9

  static void promise09NightsPersonMustBeThere() {
    for (boolean most : new boolean[] {false, true}) {
      refusesOutside(0, 4, Edges.BUSY, (book, person) -> book.nights(person, 0, 0, 9, most));
    }
    answers(10, Edges.BUSY, book -> book.nights(4, 0, 0, 9, true));
    answers(0, Edges.BUSY, book -> book.nights(4, 0, 0, 9, false));
  }

  static void promise09NightsLandFrom0To7() {
    for (boolean most : new boolean[] {false, true}) {
      refusesOutside(0, 7, Edges.BUSY, (book, land) -> book.nights(3, land, 0, 399, most));
      refuses(-1, Edges.BUSY, book -> book.nights(3, 32, 0, 399, most));
    }
    answers(2, Edges.BUSY, book -> book.nights(3, 7, 0, 399, false));
    answers(400, Edges.BUSY, book -> book.nights(3, 7, 0, 399, true));
    answers(0, Edges.BUSY, book -> book.nights(3, 0, 0, 399, false));
    answers(398, Edges.BUSY, book -> book.nights(3, 0, 0, 399, true));
  }

  static void promise09NightsDaysFrom0To399() {
    for (boolean most : new boolean[] {false, true}) {
      refuses(-1, Edges.BUSY, book -> book.nights(3, 7, -1, 399, most));
      refuses(-1, Edges.BUSY, book -> book.nights(3, 7, LOW, 399, most));
      refuses(-1, Edges.BUSY, book -> book.nights(3, 7, 0, 400, most));
      refuses(-1, Edges.BUSY, book -> book.nights(3, 7, 0, HIGH, most));
      refuses(-1, Edges.BUSY, book -> book.nights(3, 7, 400, 400, most));
      refuses(-1, Edges.BUSY, book -> book.nights(3, 7, -1, -1, most));
      answers(1, Edges.BUSY, book -> book.nights(3, 7, 0, 0, most));
      answers(1, Edges.BUSY, book -> book.nights(3, 7, 399, 399, most));
    }
  }

  static void promise09NightsFromAboveTo() {
    for (boolean most : new boolean[] {false, true}) {
      refuses(-1, Edges.BUSY, book -> book.nights(3, 7, 6, 5, most));
      refuses(-1, Edges.BUSY, book -> book.nights(3, 7, 399, 0, most));
    }
    answers(1, Edges.BUSY, book -> book.nights(3, 7, 5, 5, true));
    answers(0, Edges.BUSY, book -> book.nights(3, 7, 5, 5, false));
  }

  static void promise09NightsNoneAndAll() {
    NightBook book = Edges.book(Edges.ONE);
    is(0, book.nights(0, 6, 0, 399, false));
    is(400, book.nights(0, 6, 0, 399, true));
    book.span(0, 0, 399, 64);
    is(400, book.nights(0, 6, 0, 399, false));
    is(0, book.nights(0, 5, 0, 399, true));
  }

  static void promise09NightsBothDaysAreWithIt() {
    answers(1, Edges.BUSY, book -> book.nights(0, 0, 50, 100, false));
    answers(0, Edges.BUSY, book -> book.nights(0, 0, 50, 99, false));
    answers(1, Edges.BUSY, book -> book.nights(0, 0, 199, 300, false));
    answers(0, Edges.BUSY, book -> book.nights(0, 0, 200, 300, false));
  }

  // ---- 10

  static void promise10SurePersonMustBeThere() {
    refusesOutside(0, 4, Edges.BUSY, (book, person) -> book.sure(person, 0, 399));
    answers(0, Edges.BUSY, book -> book.sure(4, 0, 399));
    answers(2, Edges.BUSY, book -> book.sure(3, 0, 399));
  }

  static void promise10SureDaysFrom0To399() {
    refuses(-1, Edges.BUSY, book -> book.sure(3, -1, 399));
    refuses(-1, Edges.BUSY, book -> book.sure(3, LOW, 399));
    refuses(-1, Edges.BUSY, book -> book.sure(3, 0, 400));
    refuses(-1, Edges.BUSY, book -> book.sure(3, 0, HIGH));
    refuses(-1, Edges.BUSY, book -> book.sure(3, 400, 400));
    answers(1, Edges.BUSY, book -> book.sure(3, 0, 0));
    answers(1, Edges.BUSY, book -> book.sure(3, 399, 399));
    answers(0, Edges.BUSY, book -> book.sure(3, 1, 398));
  }

  static void promise10SureFromAboveTo() {
    refuses(-1, Edges.BUSY, book -> book.sure(3, 6, 5));
    refuses(-1, Edges.BUSY, book -> book.sure(3, 399, 0));
    answers(0, Edges.BUSY, book -> book.sure(3, 5, 5));
  }

  static void promise10SureOneLandIsLeftNotTwo() {
    NightBook book = Edges.book(Edges.ONE);
    is(0, book.sure(0, 0, 399));
    book.span(0, 0, 399, 129);
    is(0, book.sure(0, 0, 399));
    book.stamp(0, 0, 0, 7);
    is(1, book.sure(0, 0, 399));
    book.stamp(0, 0, 399, 7);
    is(400, book.sure(0, 0, 399));
  }

  // ---- 11

  static void promise11JoinPeopleMustBeThere() {
    refusesOutside(0, 4, Edges.BUSY, (book, person) -> book.join(person, 2));
    refusesOutside(0, 4, Edges.BUSY, (book, other) -> book.join(2, other));
    answers(2, Edges.BUSY, book -> book.join(2, 3));
    answers(1, Edges.BUSY, book -> book.join(3, 2));
  }

  static void promise11JoinItself() {
    for (int person = 0; person < 4; person++) {
      int p = person;
      refuses(-1, Edges.BUSY, book -> book.join(p, p));
    }
  }

  static void promise11JoinOfNoMarks() {
    NightBook book = Edges.book(Edges.ONE);
    book.person(2, 3);
    is(0, book.join(0, 1));
    is(1, book.count(5));
    is(-3, book.span(1, 0, 0, 1));
  }

  static void promise11JoinOfAll80Marks() {
    NightBook book = Edges.book(marks(80));
    book.person(2, 3);
    is(80, book.join(1, 0));
    is(1, book.mark(0, 1));
    is(1, book.mark(79, 1));
    is(80, book.count(1));
  }

  static void promise11JoinCountsDroppedMarks() {
    NightBook book = Edges.book(Edges.BUSY);
    is(1, book.join(3, 2));
    is(3, book.mark(7, 1));
    is(1, book.mark(7, 5));
    is(255, book.can(3, 200));
    is(1, book.drop(7, false));
    is(254, book.can(3, 200));
  }

  static void promise11JoinWhereEitherWasJoined() {
    refuses(-3, Edges.BUSY, book -> book.join(0, 4));
    refuses(-3, Edges.BUSY, book -> book.join(4, 0));
    refuses(-3, Edges.BUSY, book -> book.join(2, 4));
    refuses(-3, Edges.BUSY, book -> book.join(4, 2));
    Edges.Scene two = book -> {
      Edges.BUSY.set(book);
      book.join(2, 3);
    };
    refuses(-3, two, book -> book.join(3, 4));
    refuses(-3, two, book -> book.join(4, 3));
  }

  static void promise11JoinOfOneToWhomAnotherWasJoined() {
    NightBook book = Edges.book(Edges.BUSY);
    is(6, book.join(3, 0));
    is(3, book.mark(10, 1));
    is(128, book.can(3, 200));
    is(2, book.count(5));
  }

  static void promise11JoinThatLeavesNone() {
    refuses(-4, APART, book -> book.join(0, 1));
    refuses(-4, APART, book -> book.join(1, 0));
    NightBook book = Edges.book(APART);
    book.drop(1, true);
    is(2, book.join(0, 1));
    is(2, book.can(0, 60));
  }

  static void promise11JoinThatLeavesNoneOnTheEndsOfDays() {
    for (int day = 0; day < 400; day += 399) {
      int d = day;
      Edges.Scene ends = book -> {
        book.person(0, 1);
        book.person(0, 1);
        book.span(0, d, d, 15);
        book.stamp(1, d, d, 0);
        book.span(1, d, d, 241);
      };
      refuses(-4, ends, book -> book.join(0, 1));
    }
  }

  static void promise11JoinThatLetsWordsMeetLeavesNone() {
    Edges.Scene words = book -> {
      book.person(0, 1);
      book.person(0, 1);
      book.slept(0, 5, 0, true);
      book.slept(1, 5, 1, true);
    };
    refuses(-4, words, book -> book.join(0, 1));
    refuses(-4, words, book -> book.join(1, 0));
    Edges.Scene spanned = book -> {
      words.set(book);
      book.span(1, 5, 5, 240);
    };
    answers(2, spanned, book -> book.join(0, 1));
    answers(1, spanned, book -> book.join(1, 0));
  }

  static void promise11JoinedOneHasNoMarksAndNoneCanCome() {
    NightBook book = Edges.book(Edges.BUSY);
    is(400, book.nights(4, 7, 0, 399, true));
    is(0, book.nights(4, 7, 0, 399, false));
    is(-3, book.span(4, 0, 0, 1));
    is(-3, book.slept(4, 0, 0, false));
    is(-3, book.slept(4, 0, 0, true));
    is(-3, book.stamp(4, 0, 0, 0));
    is(11, book.count(1));
  }

  static void promise11JoinMinus1AheadOfMinus3() {
    refuses(-1, Edges.BUSY, book -> book.join(4, 4));
    refuses(-1, Edges.BUSY, book -> book.join(4, 5));
    refuses(-1, Edges.BUSY, book -> book.join(-1, 4));
  }

  static void promise11JoinMinus3AheadOfMinus4() {
    Edges.Scene scene = book -> {
      APART.set(book);
      book.person(4, 4);
      book.join(1, 2);
      book.person(5, 5);
      book.slept(3, 60, 0, false);
    };
    refuses(-4, scene, book -> book.join(1, 3));
    refuses(-3, scene, book -> book.join(2, 3));
    refuses(-3, scene, book -> book.join(3, 2));
  }
}
