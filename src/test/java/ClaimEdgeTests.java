/** The edges of promises 18 to 24, claims and treaties: each test bears its promise's number and name. */
public final class ClaimEdgeTests {
  private static final int LOW = Edges.LOW;
  private static final int HIGH = Edges.HIGH;

  private static final int NOT = 0;
  private static final int PERHAPS = 1;
  private static final int SURELY = 2;

  // Tests of treaties, as digits.
  private static final int HOME = 1;
  private static final int NIGHTS = 2;
  private static final int PASSPORT = 3;

  public static void main(String[] args) {
    Edges.run(ClaimEdgeTests.class, 18, 24);
  }

  private static void is(long want, long got) {
    Edges.is(want, got);
  }

  private static void answers(long want, Edges.Scene scene, Edges.Call call) {
    Edges.answers(want, scene, call);
  }

  private static void refuses(long want, Edges.Scene scene, Edges.Call call) {
    Edges.refuses(want, scene, call);
  }

  private static void refusesOutside(int low, int high, Edges.Scene scene, Edges.CallWith call) {
    Edges.refusesOutside(low, high, scene, call);
  }

  private static NightBook one(int home, int passport) {
    NightBook book = new NightBook();
    book.person(home, passport);
    return book;
  }

  // ---- 18

  static void promise18ClaimLandFrom0To7() {
    refusesOutside(0, 7, Edges.BUSY, (book, land) -> book.claim(land, 30));
    answers(20, Edges.BUSY, book -> book.claim(0, 30));
    answers(100, Edges.BUSY, book -> book.claim(7, 30));
  }

  static void promise18ClaimFrom1To100Nights() {
    refusesOutside(1, 100, Edges.BUSY, (book, n) -> book.claim(0, n));
    refuses(-1, Edges.BUSY, book -> book.claim(0, -1));
    NightBook book = new NightBook();
    is(51, book.claim(0, 1));
    is(1, book.claim(0, 100));
    is(100, book.claim(0, 100));
    is(-1, book.claim(0, 101));
    is(100, book.claim(0, 51));
  }

  static void promise18ClaimIsOfOneLand() {
    NightBook book = new NightBook();
    book.claim(3, 7);
    for (int land = 0; land < 8; land++) {
      is(land == 3 ? 7 : 51, book.claim(land, 9));
    }
  }

  // ---- 19

  static void promise19ClaimsLandFrom0To7() {
    refusesOutside(0, 7, Edges.BUSY, (book, land) -> book.claims(land, 0, 0));
    answers(PERHAPS, Edges.BUSY, book -> book.claims(0, 0, 0));
    answers(NOT, Edges.BUSY, book -> book.claims(7, 0, 0));
  }

  static void promise19ClaimsPersonMustBeThere() {
    refusesOutside(0, 4, Edges.BUSY, (book, person) -> book.claims(0, person, 0));
    answers(PERHAPS, Edges.BUSY, book -> book.claims(0, 4, 0));
  }

  static void promise19ClaimsYearFrom0To3() {
    refusesOutside(0, 3, Edges.BUSY, (book, year) -> book.claims(0, 0, year));
    answers(SURELY, Edges.BUSY, book -> book.claims(0, 0, 1));
    answers(PERHAPS, Edges.BUSY, book -> book.claims(0, 0, 3));
  }

  static void promise19ClaimsSurelyByLeast() {
    NightBook book = one(0, 0);
    book.span(0, 0, 49, 4);
    is(PERHAPS, book.claims(2, 0, 0));
    book.slept(0, 50, 2, false);
    is(SURELY, book.claims(2, 0, 0));
    book.claim(2, 52);
    is(PERHAPS, book.claims(2, 0, 0));
    book.claim(2, 51);
    is(SURELY, book.claims(2, 0, 0));
  }

  static void promise19ClaimsPerhapsByMost() {
    NightBook book = one(0, 0);
    book.stamp(0, 0, 48, 2);
    is(PERHAPS, book.claims(2, 0, 0));
    book.stamp(0, 49, 49, 2);
    is(NOT, book.claims(2, 0, 0));
    book.claim(2, 50);
    is(PERHAPS, book.claims(2, 0, 0));
    book.stamp(0, 50, 50, 2);
    is(NOT, book.claims(2, 0, 0));
  }

  static void promise19ClaimsBy1And100Nights() {
    NightBook book = one(0, 0);
    book.claim(2, 1);
    is(PERHAPS, book.claims(2, 0, 0));
    book.slept(0, 99, 2, false);
    is(SURELY, book.claims(2, 0, 0));
    book.claim(2, 100);
    is(PERHAPS, book.claims(2, 0, 0));
    book.span(0, 0, 99, 4);
    is(SURELY, book.claims(2, 0, 0));
    book.claim(3, 1);
    is(NOT, book.claims(3, 0, 0));
    is(PERHAPS, book.claims(3, 0, 1));
  }

  static void promise19ClaimsYearsOf100Days() {
    for (int year = 0; year < 4; year++) {
      NightBook book = one(0, 0);
      book.claim(2, 1);
      book.slept(0, 100 * year, 2, false);
      book.slept(0, 100 * year + 99, 2, false);
      for (int other = 0; other < 4; other++) {
        is(other == year ? SURELY : PERHAPS, book.claims(2, 0, other));
      }
      book.claim(2, 2);
      is(SURELY, book.claims(2, 0, year));
      book.claim(2, 3);
      is(PERHAPS, book.claims(2, 0, year));
    }
  }

  // ---- 20

  static void promise20TreatyLandsFrom0To7() {
    refusesOutside(0, 7, Edges.BUSY, (book, land) -> book.treaty(land, 4, HOME));
    refusesOutside(0, 7, Edges.BUSY, (book, other) -> book.treaty(4, other, HOME));
    answers(0, Edges.BUSY, book -> book.treaty(0, 7, HOME));
    answers(0, Edges.BUSY, book -> book.treaty(7, 0, HOME));
    answers(1, Edges.BUSY, book -> book.treaty(7, 6, HOME));
  }

  static void promise20TreatyOfOneLandTwice() {
    for (int land = 0; land < 8; land++) {
      int l = land;
      refuses(-1, Edges.BUSY, book -> book.treaty(l, l, HOME));
    }
  }

  static void promise20TreatyTestsAsDigits() {
    int[] right = {0, 1, 2, 3, 6, 7, 9, 11, 13, 14, 27, 30, 39, 45, 54, 57};
    for (int value = -70; value < 300; value++) {
      int tests = value;
      boolean taken = false;
      for (int one : right) {
        taken |= one == tests;
      }
      if (taken) {
        answers(0, Edges.BUSY, book -> book.treaty(4, 5, tests));
      } else {
        refuses(-1, Edges.BUSY, book -> book.treaty(4, 5, tests));
      }
    }
    refuses(-1, Edges.BUSY, book -> book.treaty(4, 5, LOW));
    refuses(-1, Edges.BUSY, book -> book.treaty(4, 5, HIGH));
    refuses(-1, Edges.BUSY, book -> book.treaty(4, 5, LOW + 57));
  }

  static void promise20TreatyRefusedLeavesTheOneBefore() {
    refuses(-1, Edges.BUSY, book -> book.treaty(0, 1, 64));
    refuses(-1, Edges.BUSY, book -> book.treaty(1, 0, 5));
    refuses(-1, Edges.BUSY, book -> book.treaty(2, 3, 4));
  }

  static void promise20TreatyInPlaceOfOneBefore() {
    NightBook book = one(0, 1);
    is(0, book.treaty(0, 1, HOME));
    is(0, book.decides(0, 1, 0, 0));
    is(1, book.treaty(1, 0, PASSPORT));
    is(1, book.decides(0, 1, 0, 0));
    is(1, book.treaty(0, 1, 0));
    is(-2, book.decides(0, 1, 0, 0));
    is(1, book.treaty(0, 1, 0));
    is(1, book.count(3));
  }

  static void promise20TreatyOfAllPairs() {
    NightBook book = one(0, 1);
    for (int land = 0; land < 8; land++) {
      for (int other = land + 1; other < 8; other++) {
        is(0, book.treaty(other, land, NIGHTS));
      }
    }
    is(28, book.count(3));
    for (int land = 0; land < 8; land++) {
      for (int other = land + 1; other < 8; other++) {
        is(1, book.treaty(land, other, NIGHTS));
      }
    }
    is(28, book.count(3));
  }

  // ---- 21

  static void promise21DecidesLandsFrom0To7() {
    refusesOutside(0, 7, Edges.BUSY, (book, land) -> book.decides(land, 1, 0, 0));
    refusesOutside(0, 7, Edges.BUSY, (book, other) -> book.decides(1, other, 0, 0));
    answers(0, Edges.BUSY, book -> book.decides(0, 1, 0, 0));
    answers(-2, Edges.BUSY, book -> book.decides(7, 0, 0, 0));
  }

  static void promise21DecidesOneLandTwice() {
    for (int land = 0; land < 8; land++) {
      int l = land;
      refuses(-1, Edges.BUSY, book -> book.decides(l, l, 0, 0));
    }
  }

  static void promise21DecidesPersonMustBeThere() {
    refusesOutside(0, 4, Edges.BUSY, (book, person) -> book.decides(0, 1, person, 0));
    answers(0, Edges.BUSY, book -> book.decides(0, 1, 4, 0));
  }

  static void promise21DecidesYearFrom0To3() {
    refusesOutside(0, 3, Edges.BUSY, (book, year) -> book.decides(0, 1, 0, year));
    answers(0, Edges.BUSY, book -> book.decides(0, 1, 0, 0));
    answers(0, Edges.BUSY, book -> book.decides(0, 1, 0, 3));
  }

  static void promise21DecidesWithoutTreatyOrTests() {
    refuses(-2, Edges.BUSY, book -> book.decides(0, 2, 0, 0));
    refuses(-2, Edges.BUSY, book -> book.decides(6, 7, 0, 0));
  }

  static void promise21DecidesMinus1AheadOfMinus2() {
    refuses(-1, Edges.BUSY, book -> book.decides(0, 2, 5, 0));
    refuses(-1, Edges.BUSY, book -> book.decides(0, 2, 0, 4));
    refuses(-1, Edges.BUSY, book -> book.decides(2, 2, 0, 0));
    refuses(-1, Edges.BUSY, book -> book.decides(2, 8, 0, 0));
  }

  static void promise21DecidesAsIfBothClaimed() {
    NightBook book = one(0, 1);
    book.span(0, 0, 399, 8);
    book.treaty(0, 1, HOME);
    is(NOT, book.claims(0, 0, 0));
    is(0, book.decides(0, 1, 0, 0));
    is(0, book.decides(1, 0, 0, 0));
  }

  static void promise21DecidesHomeAndPassportOfNeither() {
    NightBook book = one(0, 7);
    book.treaty(2, 3, HOME);
    book.treaty(3, 4, PASSPORT);
    book.treaty(0, 7, HOME);
    book.treaty(6, 7, PASSPORT);
    is(-2, book.decides(2, 3, 0, 0));
    is(-2, book.decides(3, 4, 0, 0));
    is(0, book.decides(0, 7, 0, 0));
    is(7, book.decides(6, 7, 0, 0));
    is(7, book.decides(7, 6, 0, 0));
  }

  static void promise21DecidesByNightsLeastAboveMost() {
    NightBook book = one(5, 5);
    book.treaty(0, 1, NIGHTS);
    book.span(0, 0, 49, 1);
    book.span(0, 50, 99, 2);
    is(-2, book.decides(0, 1, 0, 0));
    book.drop(1, true);
    book.span(0, 50, 98, 2);
    is(-2, book.decides(0, 1, 0, 0));
    book.stamp(0, 99, 99, 1);
    is(0, book.decides(0, 1, 0, 0));
    is(0, book.decides(1, 0, 0, 0));
    is(-2, book.decides(0, 1, 0, 1));
  }

  static void promise21DecidesByNightsOfTheYearAlone() {
    NightBook book = one(5, 5);
    book.treaty(0, 1, NIGHTS);
    book.span(0, 0, 99, 4);
    book.span(0, 100, 199, 8);
    book.drop(0, true);
    book.slept(0, 99, 0, false);
    book.span(0, 0, 98, 4);
    is(0, book.decides(0, 1, 0, 0));
    is(-2, book.decides(0, 1, 0, 1));
    is(-2, book.decides(0, 1, 0, 2));
  }

  static void promise21DecidesByTheFirstTestThatTellsThemApart() {
    NightBook book = one(0, 1);
    book.span(0, 0, 99, 4);
    for (int tests : new int[] {57, 45, 54, 30, 39, 27}) {
      book.treaty(0, 1, tests);
      int first = tests % 4 == NIGHTS ? tests / 4 % 4 : tests % 4;
      is(first == HOME ? 0 : 1, book.decides(0, 1, 0, 0));
      book.treaty(1, 2, tests);
      int last = tests % 4 == HOME ? tests / 4 % 4 : tests % 4;
      is(last == NIGHTS ? 2 : 1, book.decides(1, 2, 0, 0));
      book.treaty(3, 4, tests);
      is(-2, book.decides(3, 4, 0, 0));
    }
  }

  // ---- 22

  static void promise22TaxedPersonMustBeThere() {
    refusesOutside(0, 4, Edges.BUSY, (book, person) -> book.taxed(person, 0));
    refusesOutside(0, 5, Edges.FULL, (book, person) -> book.taxed(person, 0));
    answers(-2, Edges.BUSY, book -> book.taxed(4, 0));
  }

  static void promise22TaxedYearFrom0To3() {
    refusesOutside(0, 3, Edges.BUSY, (book, year) -> book.taxed(0, year));
    answers(0, Edges.BUSY, book -> book.taxed(0, 1));
    answers(-2, Edges.BUSY, book -> book.taxed(0, 3));
  }

  static void promise22TaxedNoneClaimsSurely() {
    NightBook book = one(0, 1);
    is(-2, book.taxed(0, 0));
    book.span(0, 0, 49, 4);
    is(-2, book.taxed(0, 0));
    book.slept(0, 50, 2, false);
    is(2, book.taxed(0, 0));
  }

  static void promise22TaxedByOneThatClaimsAlone() {
    NightBook book = one(0, 1);
    book.treaty(0, 7, HOME);
    book.claim(0, 100);
    book.claim(7, 1);
    book.slept(0, 0, 7, false);
    is(7, book.taxed(0, 0));
    is(-2, book.taxed(0, 1));
  }

  static void promise22TaxedTwoClaimWithoutTreaty() {
    NightBook book = one(0, 1);
    book.claim(0, 50);
    book.claim(1, 50);
    book.span(0, 0, 49, 1);
    book.span(0, 50, 99, 2);
    is(-3, book.taxed(0, 0));
    book.treaty(0, 1, NIGHTS);
    is(-3, book.taxed(0, 0));
    book.treaty(0, 1, NIGHTS + 4 * PASSPORT);
    is(1, book.taxed(0, 0));
    book.claim(1, 51);
    is(0, book.taxed(0, 0));
    book.claim(0, 51);
    is(-2, book.taxed(0, 0));
  }

  static void promise22TaxedInARing() {
    NightBook book = one(0, 1);
    for (int land = 0; land < 3; land++) {
      book.claim(land, 10);
    }
    book.span(0, 0, 9, 1);
    book.span(0, 10, 19, 2);
    book.span(0, 20, 99, 4);
    book.treaty(0, 1, HOME);
    book.treaty(1, 2, PASSPORT);
    book.treaty(0, 2, NIGHTS);
    is(-3, book.taxed(0, 0));
    book.treaty(0, 2, HOME);
    is(0, book.taxed(0, 0));
    book.treaty(0, 2, PASSPORT);
    is(-3, book.taxed(0, 0));
  }

  static void promise22TaxedAmongAllEight() {
    NightBook book = one(7, 0);
    for (int land = 0; land < 8; land++) {
      book.claim(land, 1);
      book.slept(0, 300 + land, land, false);
    }
    for (int land = 0; land < 7; land++) {
      is(-3, book.taxed(0, 3));
      book.treaty(land, 7, HOME);
    }
    is(7, book.taxed(0, 3));
  }

  // ---- 23

  static void promise23QuarrelsOfNobody() {
    answers(0, Edges.EMPTY, book -> book.quarrels());
    answers(0, Edges.ONE, book -> book.quarrels());
  }

  static void promise23QuarrelsOfAllPeopleAndYears() {
    NightBook book = new NightBook();
    book.claim(3, 1);
    book.claim(4, 1);
    int due = 0;
    for (int person = 0; person < 6; person++) {
      book.person(3, 4);
      for (int year = 0; year < 4; year++) {
        book.slept(person, 100 * year, 3, false);
        is(due, book.quarrels());
        book.slept(person, 100 * year + 99, 4, false);
        due++;
        is(due, book.quarrels());
        is(-3, book.taxed(person, year));
      }
    }
    is(24, book.quarrels());
    book.treaty(3, 4, HOME);
    is(0, book.quarrels());
  }

  static void promise23QuarrelsOfJoinedPeopleAreOnes() {
    NightBook book = new NightBook();
    book.claim(3, 1);
    book.claim(4, 1);
    for (int person = 0; person < 2; person++) {
      book.person(0, 0);
      book.slept(person, 5, 3, false);
      book.slept(person, 6, 4, false);
    }
    is(2, book.quarrels());
    is(2, book.join(0, 1));
    is(1, book.quarrels());
  }

  static void promise23QuarrelsChangeNothing() {
    long due = Edges.book(Edges.BUSY).quarrels();
    Edges.changesNothing(due, Edges.BUSY, book -> book.quarrels());
  }

  // ---- 24

  static void promise24CountWhatFrom0To5() {
    refusesOutside(0, 5, Edges.BUSY, (book, what) -> book.count(what));
    int[] due = {5, 11, 4, 3, 1, 1};
    for (int what = 0; what < 6; what++) {
      int w = what;
      Edges.changesNothing(due[what], Edges.BUSY, book -> book.count(w));
    }
  }

  static void promise24CountOfNothing() {
    for (int what = 0; what < 6; what++) {
      int w = what;
      answers(0, Edges.EMPTY, book -> book.count(w));
    }
  }

  static void promise24CountOfTheMostThereCanBe() {
    NightBook book = Edges.book(Edges.FULL);
    is(6, book.count(0));
    is(80, book.count(1));
    is(12, book.count(2));
    for (int land = 0; land < 8; land++) {
      for (int other = 0; other < land; other++) {
        book.treaty(land, other, 0);
      }
    }
    is(28, book.count(3));
    for (int mark = 0; mark < 80; mark++) {
      book.drop(mark, true);
    }
    is(80, book.count(4));
    for (int person = 1; person < 5; person++) {
      book.join(0, person);
    }
    is(5, book.count(5));
  }

  static void promise24CountOfDroppedOnesThatComeAgain() {
    NightBook book = Edges.book(Edges.BUSY);
    is(1, book.drop(7, false));
    is(0, book.count(4));
    is(11, book.count(1));
  }
}
