import java.util.Arrays;

/**
 * Days in lands: what is known of people's nights, the laws that lands make of
 * them, and the lands that claim people for a year.
 */
public final class NightBook {
  private static final int LANDS = 8;
  private static final int ALL_LANDS = 255;
  private static final int DAYS = 400;
  private static final int PEOPLE = 6;
  private static final int MARKS = 80;
  private static final int LAWS = 12;
  private static final int YEARS = 4;
  private static final int YEAR_DAYS = 100;
  private static final int SHELVES = 8;
  private static final int MOST_IN_LAW = 200;
  private static final int CLAIM_AT_FIRST = 51;
  private static final int TESTS = 3;
  private static final int LONGEST_MADE = 60;

  // A sign above the lands' bits: neither span nor bill nor stamp tells of the night.
  private static final int UNTOLD = 256;

  private static final int SPAN = 0;
  private static final int BILL = 1;
  private static final int STAMP = 2;
  private static final int WORD = 3;

  private static final int WINDOW = 0;
  private static final int STRETCH = 1;
  private static final int NEEDS = 2;
  private static final int ABSENT = 3;

  private static final int NOT = 0;
  private static final int PERHAPS = 1;
  private static final int SURELY = 2;

  private static final int BY_HOME = 1;
  private static final int BY_NIGHTS = 2;
  private static final int BY_PASSPORT = 3;

  private static final int KEEP_NOTHING = 0;
  private static final int KEEP_LAW = 1;
  private static final int KEEP_MARK = 2;
  private static final int KEEP_BYTES = 3;
  private static final int KEEP_SHORTS = 4;

  private static final int WRONG = -1;
  private static final int FULL = -2;
  private static final int NONE = -2;
  private static final int IS_JOINED = -3;
  private static final int QUARREL = -3;
  private static final int EMPTY_NIGHT = -4;
  private static final int NOTHING_HELD = -11;
  private static final int OTHER_KIND = -12;
  private static final int NO_PLACE = -13;
  private static final int SIZE_BELOW_0 = -14;
  private static final int NO_FAILURE = -15;

  // In the table of pairs of lands, where 0 is a treaty without tests.
  private static final int NO_TREATY = -1;

  private final int[] homes;
  private final int[] passports;
  private final boolean[] joined;
  private int people;

  // By person and day: the lands in which the night can have been.
  private final int[][] cans;

  private final Span[] marks;
  private int markCount;

  private final Window[] laws;
  private int lawCount;

  private final int[] claimNights;
  private final int[] treaties;
  private int treatyCount;

  private final Held[] shelves;

  // Rows that calls use again, so that none makes its own.
  private final Tally[] tallies;
  private final int[] mind;
  private final int[] words;

  public NightBook() {
    homes = new int[PEOPLE];
    passports = new int[PEOPLE];
    joined = new boolean[PEOPLE];
    cans = new int[PEOPLE][DAYS];
    marks = new Span[MARKS];
    laws = new Window[LAWS];
    claimNights = new int[LANDS];
    Arrays.fill(claimNights, CLAIM_AT_FIRST);
    treaties = new int[LANDS * LANDS];
    Arrays.fill(treaties, NO_TREATY);
    shelves = new Held[SHELVES];
    tallies = new Tally[LANDS];
    for (int land = 0; land < LANDS; land++) {
      tallies[land] = new Tally(land);
    }
    mind = new int[DAYS];
    words = new int[DAYS];
  }

  // ---- people and marks

  public int person(int home, int passport) {
    if (!isLand(home) || !isLand(passport)) {
      return WRONG;
    }
    if (people >= PEOPLE) {
      return FULL;
    }
    int number = people;
    people++;
    homes[number] = home;
    passports[number] = passport;
    Arrays.fill(cans[number], ALL_LANDS);
    return number;
  }

  public int span(int person, int from, int to, int lands) {
    if (!isPerson(person) || !areDays(from, to) || lands < 1 || lands > ALL_LANDS) {
      return WRONG;
    }
    return enter(new Span(markCount, person, from, to, lands));
  }

  public int slept(int person, int day, int land, boolean word) {
    if (!isPerson(person) || !isDay(day) || !isLand(land)) {
      return WRONG;
    }
    return enter(word ? new Word(markCount, person, day, land) : new Bill(markCount, person, day, land));
  }

  public int stamp(int person, int from, int to, int land) {
    if (!isPerson(person) || !areDays(from, to) || !isLand(land)) {
      return WRONG;
    }
    return enter(new Stamp(markCount, person, from, to, land));
  }

  public int drop(int mark, boolean is) {
    Span told = markAt(mark);
    if (told == null) {
      return WRONG;
    }
    if (told.dropped == is) {
      return 0;
    }
    told.dropped = is;
    if (tellAnew(told.person, told.person, told.from, told.to)) {
      return 1;
    }
    told.dropped = !is;
    return EMPTY_NIGHT;
  }

  public int mark(int mark, int what) {
    Span told = markAt(mark);
    if (told == null) {
      return WRONG;
    }
    switch (what) {
      case 0:
        return told.kind();
      case 1:
        return told.person;
      case 2:
        return told.from;
      case 3:
        return told.to;
      case 4:
        return told.lands;
      case 5:
        return told.dropped ? 1 : 0;
      default:
        return WRONG;
    }
  }

  public int can(int person, int day) {
    return isPerson(person) && isDay(day) ? cans[person][day] : WRONG;
  }

  public int nights(int person, int land, int from, int to, boolean most) {
    if (!isPerson(person) || !isLand(land) || !areDays(from, to)) {
      return WRONG;
    }
    Tally tally = tallies[land];
    tally.sum(cans[person], from, to);
    return most ? tally.most : tally.least;
  }

  public int sure(int person, int from, int to) {
    if (!isPerson(person) || !areDays(from, to)) {
      return WRONG;
    }
    int nights = 0;
    for (int day = from; day <= to; day++) {
      if (Integer.bitCount(cans[person][day]) == 1) {
        nights++;
      }
    }
    return nights;
  }

  public int join(int person, int other) {
    if (!isPerson(person) || !isPerson(other) || person == other) {
      return WRONG;
    }
    if (joined[person] || joined[other]) {
      return IS_JOINED;
    }
    if (!tellAnew(person, other, 0, DAYS - 1)) {
      return EMPTY_NIGHT;
    }
    joined[other] = true;
    Arrays.fill(cans[other], ALL_LANDS);
    return handOverMarks(person, other);
  }

  private static boolean isLand(int land) {
    return land >= 0 && land < LANDS;
  }

  private static boolean isDay(int day) {
    return day >= 0 && day < DAYS;
  }

  private static boolean areDays(int from, int to) {
    return isDay(from) && isDay(to) && from <= to;
  }

  private static boolean isYear(int year) {
    return year >= 0 && year < YEARS;
  }

  private static boolean isShelf(int d) {
    return d >= 0 && d < SHELVES;
  }

  private boolean isPerson(int person) {
    return person >= 0 && person < people;
  }

  private Span markAt(int mark) {
    return mark >= 0 && mark < markCount ? marks[mark] : null;
  }

  private Window lawAt(int law) {
    return law >= 0 && law < lawCount ? laws[law] : null;
  }

  private int enter(Span told) {
    int number = markCount;
    if (number >= MARKS) {
      return FULL;
    }
    if (joined[told.person]) {
      return IS_JOINED;
    }
    marks[number] = told;
    markCount++;
    if (tellAnew(told.person, told.person, told.from, told.to)) {
      return number;
    }
    markCount--;
    marks[number] = null;
    return EMPTY_NIGHT;
  }

  /**
   * Finds anew where the person can have been in some nights, the other one's
   * marks being the person's too. If a night has no land, nothing is changed.
   */
  private boolean tellAnew(int person, int other, int from, int to) {
    Arrays.fill(mind, from, to + 1, ALL_LANDS | UNTOLD);
    Arrays.fill(words, from, to + 1, ALL_LANDS);
    for (int i = 0; i < markCount; i++) {
      Span told = marks[i];
      if (told != null && !told.dropped && (told.person == person || told.person == other)) {
        narrow(told.givesWay() ? words : mind, told, from, to);
      }
    }
    for (int day = from; day <= to; day++) {
      if ((mind[day] & UNTOLD) != 0) {
        mind[day] = words[day];
      }
      if (mind[day] == 0) {
        return false;
      }
    }
    System.arraycopy(mind, from, cans[person], from, to - from + 1);
    return true;
  }

  private static void narrow(int[] row, Span told, int from, int to) {
    int last = Math.min(to, told.to);
    for (int day = Math.max(from, told.from); day <= last; day++) {
      row[day] &= told.lands;
    }
  }

  private int handOverMarks(int person, int other) {
    int came = 0;
    for (int i = 0; i < markCount; i++) {
      Span told = marks[i];
      if (told != null && told.person == other) {
        told.person = person;
        came++;
      }
    }
    return came;
  }

  // ---- laws

  public int law(int told, int n, int w) {
    if (told < 0 || !isLand(told % 10) || told / 10 > ABSENT || n < 0 || n > MOST_IN_LAW) {
      return WRONG;
    }
    int kind = told / 10;
    boolean usesW = kind == WINDOW || kind == NEEDS;
    if (usesW && (w < 1 || w > MOST_IN_LAW)) {
      return WRONG;
    }
    if (lawCount >= LAWS) {
      return FULL;
    }
    int number = lawCount;
    laws[number] = newLaw(kind, told % 10, n, w);
    lawCount++;
    return number;
  }

  public int kept(int law, int person, int day) {
    Window rule = lawAt(law);
    if (rule == null || !isPerson(person) || !isDay(day)) {
      return WRONG;
    }
    rule.lookAt(cans[person], day);
    return rule.verdict(rule.here, day);
  }

  public int first(int law, int person, int day, boolean sure) {
    Window rule = lawAt(law);
    if (rule == null || !isPerson(person) || !isDay(day)) {
      return WRONG;
    }
    return firstAtMost(sure ? NOT : PERHAPS, rule, cans[person], day);
  }

  public int broken(int person) {
    if (!isPerson(person)) {
      return WRONG;
    }
    int bits = 0;
    for (int i = 0; i < lawCount; i++) {
      Window rule = laws[i];
      if (rule != null && firstAtMost(NOT, rule, cans[person], 0) != NONE) {
        bits |= 1 << i;
      }
    }
    return bits;
  }

  public int free(int person, int land, int a, int b) {
    if (!isPerson(person) || !isLand(land) || !areDays(a, b)) {
      return WRONG;
    }
    return travel(person, land, a, b);
  }

  public int trip(int person, int land, int a, int b, int i) {
    if (!isPerson(person) || !isLand(land) || !areDays(a, b) || i < 0) {
      return WRONG;
    }
    travel(person, land, a, b);
    int before = 0;
    for (int day = a; day <= b; day++) {
      if (mind[day] == 1 << land) {
        if (before == i) {
          return day;
        }
        before++;
      }
    }
    return NONE;
  }

  private static Window newLaw(int kind, int land, int n, int w) {
    switch (kind) {
      case STRETCH:
        return new Stretch(land, n);
      case NEEDS:
        return new Needs(land, n, w);
      case ABSENT:
        return new Absent(land, n);
      default:
        return new Window(land, n, w);
    }
  }

  private static int firstAtMost(int verdict, Window rule, int[] row, int from) {
    rule.lookAt(row, from);
    for (int day = from; day < DAYS; day++) {
      if (day > from) {
        rule.moveTo(row, day);
      }
      if (rule.verdict(rule.here, day) <= verdict) {
        return day;
      }
    }
    return NONE;
  }

  /** Makes the trip in mind, where its nights are then in the land: how many. */
  private int travel(int person, int land, int a, int b) {
    int there = 1 << land;
    int rest = 1 << landOfRest(person, land);
    System.arraycopy(cans[person], 0, mind, 0, DAYS);
    Arrays.fill(mind, a, b + 1, rest);
    for (int i = 0; i < lawCount; i++) {
      Window rule = laws[i];
      if (rule != null) {
        rule.lookAt(mind, a - 1);
        rule.lookAtEnd(mind, b);
      }
    }
    int taken = 0;
    for (int day = a; day <= b; day++) {
      if (takes(day, b, rest, there)) {
        taken++;
      }
    }
    return taken;
  }

  private int landOfRest(int person, int land) {
    if (homes[person] != land) {
      return homes[person];
    }
    if (passports[person] != land) {
      return passports[person];
    }
    return land == 0 ? 1 : 0;
  }

  private boolean takes(int day, int b, int rest, int there) {
    for (int i = 0; i < lawCount; i++) {
      Window rule = laws[i];
      if (rule != null) {
        rule.moveTo(mind, day);
      }
    }
    change(day, rest, there);
    if (areSurelyKept(day, b)) {
      return true;
    }
    change(day, there, rest);
    return false;
  }

  private void change(int day, int before, int now) {
    mind[day] = now;
    for (int i = 0; i < lawCount; i++) {
      Window rule = laws[i];
      if (rule != null) {
        rule.change(day, before, now);
      }
    }
  }

  /**
   * Whether the laws that bind trips are surely kept from a day to the trip's
   * last one. All nights between are rest in one land, so from day to day a
   * law's nights there only become more, or only fewer: if it is surely kept at
   * both ends, it is so between.
   */
  private boolean areSurelyKept(int day, int b) {
    for (int i = 0; i < lawCount; i++) {
      Window rule = laws[i];
      if (rule != null && rule.bindsTrips()
          && (rule.verdict(rule.here, day) != SURELY || rule.verdict(rule.end, b) != SURELY)) {
        return false;
      }
    }
    return true;
  }

  // ---- claims and treaties

  public int claim(int land, int n) {
    if (!isLand(land) || n < 1 || n > YEAR_DAYS) {
      return WRONG;
    }
    int before = claimNights[land];
    claimNights[land] = n;
    return before;
  }

  public int claims(int land, int person, int year) {
    if (!isLand(land) || !isPerson(person) || !isYear(year)) {
      return WRONG;
    }
    sumYear(land, person, year);
    if (tallies[land].least >= claimNights[land]) {
      return SURELY;
    }
    return tallies[land].most >= claimNights[land] ? PERHAPS : NOT;
  }

  public int treaty(int land, int other, int tests) {
    if (!isLand(land) || !isLand(other) || land == other || !areTests(tests)) {
      return WRONG;
    }
    int pair = pairOf(land, other);
    boolean had = treaties[pair] != NO_TREATY;
    treaties[pair] = tests;
    if (!had) {
      treatyCount++;
    }
    return had ? 1 : 0;
  }

  public int decides(int land, int other, int person, int year) {
    if (!isLand(land) || !isLand(other) || land == other || !isPerson(person) || !isYear(year)) {
      return WRONG;
    }
    sumYear(land, person, year);
    sumYear(other, person, year);
    return decidedFor(land, other, person);
  }

  public int taxed(int person, int year) {
    return isPerson(person) && isYear(year) ? taxingLand(person, year) : WRONG;
  }

  public int quarrels() {
    int quarrels = 0;
    for (int person = 0; person < people; person++) {
      for (int year = 0; year < YEARS; year++) {
        if (taxingLand(person, year) == QUARREL) {
          quarrels++;
        }
      }
    }
    return quarrels;
  }

  public int count(int what) {
    switch (what) {
      case 0:
        return people;
      case 1:
        return markCount;
      case 2:
        return lawCount;
      case 3:
        return treatyCount;
      case 4:
        return droppedMarks();
      case 5:
        return joinedPeople();
      default:
        return WRONG;
    }
  }

  public int keep(int d, int what, int k) {
    if (!isShelf(d)) {
      return WRONG;
    }
    Held held = what == KEEP_NOTHING ? null : wanted(what, k);
    if (held == null && what != KEEP_NOTHING) {
      return WRONG;
    }
    shelves[d] = held;
    return 0;
  }

  public int make(int d, int what, int n) {
    if (!isShelf(d) || (what != KEEP_BYTES && what != KEEP_SHORTS) || n > LONGEST_MADE) {
      return WRONG;
    }
    if (n < 0) {
      return SIZE_BELOW_0;
    }
    shelves[d] = new Row(what == KEEP_SHORTS, n);
    return 0;
  }

  public long element(int d, int i) throws IllegalArgumentException, IllegalStateException {
    if (!isShelf(d)) {
      throw new IllegalArgumentException("no such shelf");
    }
    Row row = rowOn(d);
    if (row == null) {
      throw new IllegalStateException("no row is held");
    }
    if (i < 0 || i >= row.cells.length) {
      throw new IllegalStateException("no such place");
    }
    return row.cells[i];
  }

  public int copy(int d, int i, int e, int j, int n) {
    if (!isShelf(d) || !isShelf(e)) {
      return WRONG;
    }
    if (shelves[d] == null || shelves[e] == null) {
      return NOTHING_HELD;
    }
    Row source = rowOn(d);
    Row target = rowOn(e);
    if (source == null || target == null || source.wide != target.wide) {
      return OTHER_KIND;
    }
    if (!source.hasPlaces(i, n) || !target.hasPlaces(j, n)) {
      return NO_PLACE;
    }
    System.arraycopy(source.cells, i, target.cells, j, n);
    return n;
  }

  public int weight(int d) {
    if (!isShelf(d)) {
      return WRONG;
    }
    Held held = shelves[d];
    return held == null ? NOTHING_HELD : held.heft();
  }

  public int toss(int d) {
    if (!isShelf(d)) {
      return WRONG;
    }
    Held held = shelves[d];
    if (held == null) {
      return NOTHING_HELD;
    }
    if (held instanceof Row) {
      return OTHER_KIND;
    }
    try {
      held.fail();
    } catch (IllegalStateException failure) {
      return held.failureNumber();
    }
    return NO_FAILURE;
  }

  private Row rowOn(int d) {
    return shelves[d] instanceof Row row ? row : null;
  }

  private void sumYear(int land, int person, int year) {
    int from = year * YEAR_DAYS;
    tallies[land].sum(cans[person], from, from + YEAR_DAYS - 1);
  }

  /** Digits to the base 4, none but 0 behind a 0 and none twice. */
  private static boolean areTests(int tests) {
    if (tests < 0 || tests >= 1 << 2 * TESTS) {
      return false;
    }
    int seen = 0;
    boolean ended = false;
    for (int k = 0; k < TESTS; k++) {
      int test = testAt(tests, k);
      if (test != 0 && (ended || (seen >> test & 1) != 0)) {
        return false;
      }
      ended = test == 0;
      seen |= 1 << test;
    }
    return true;
  }

  private static int testAt(int tests, int k) {
    return tests >> 2 * k & 3;
  }

  private static int pairOf(int land, int other) {
    return Math.min(land, other) * LANDS + Math.max(land, other);
  }

  /** The two lands' tallies hold the year's nights when this is called. */
  private int decidedFor(int land, int other, int person) {
    int tests = treaties[pairOf(land, other)];
    if (tests == NO_TREATY) {
      return NONE;
    }
    for (int k = 0; k < TESTS; k++) {
      int winner = winnerBy(testAt(tests, k), land, other, person);
      if (winner != NONE) {
        return winner;
      }
    }
    return NONE;
  }

  private int winnerBy(int test, int land, int other, int person) {
    switch (test) {
      case BY_HOME:
        return oneOfTwo(homes[person], land, other);
      case BY_NIGHTS:
        return winnerByNights(land, other);
      case BY_PASSPORT:
        return oneOfTwo(passports[person], land, other);
      default:
        return NONE;
    }
  }

  private static int oneOfTwo(int wanted, int land, int other) {
    return wanted == land || wanted == other ? wanted : NONE;
  }

  private int winnerByNights(int land, int other) {
    if (tallies[land].least > tallies[other].most) {
      return land;
    }
    return tallies[other].least > tallies[land].most ? other : NONE;
  }

  private int taxingLand(int person, int year) {
    int claimants = 0;
    for (int land = 0; land < LANDS; land++) {
      sumYear(land, person, year);
      if (tallies[land].least >= claimNights[land]) {
        claimants |= 1 << land;
      }
    }
    if (claimants == 0) {
      return NONE;
    }
    for (int land = 0; land < LANDS; land++) {
      if ((claimants >> land & 1) != 0 && prevails(land, claimants, person)) {
        return land;
      }
    }
    return QUARREL;
  }

  private boolean prevails(int land, int claimants, int person) {
    for (int other = 0; other < LANDS; other++) {
      if (other != land && (claimants >> other & 1) != 0 && decidedFor(land, other, person) != land) {
        return false;
      }
    }
    return true;
  }

  private int droppedMarks() {
    int dropped = 0;
    for (int i = 0; i < markCount; i++) {
      Span told = marks[i];
      if (told != null && told.dropped) {
        dropped++;
      }
    }
    return dropped;
  }

  private int joinedPeople() {
    int number = 0;
    for (int person = 0; person < people; person++) {
      if (joined[person]) {
        number++;
      }
    }
    return number;
  }

  /** What a shelf is to hold, or null if there is no such thing. */
  private Held wanted(int what, int k) {
    switch (what) {
      case KEEP_LAW:
        return lawAt(k);
      case KEEP_MARK:
        return markAt(k);
      case KEEP_BYTES:
        return isPerson(k) ? rowOfCans(k) : null;
      case KEEP_SHORTS:
        return isPerson(k) ? rowOfMost(k) : null;
      default:
        return null;
    }
  }

  private Row rowOfCans(int person) {
    Row row = new Row(false, DAYS);
    for (int day = 0; day < DAYS; day++) {
      row.cells[day] = (byte) cans[person][day];
    }
    return row;
  }

  private Row rowOfMost(int person) {
    Row row = new Row(true, LANDS);
    for (int land = 0; land < LANDS; land++) {
      tallies[land].sum(cans[person], 0, DAYS - 1);
      row.cells[land] = (short) tallies[land].most;
    }
    return row;
  }

  /** The least and the most nights in a land, of some nights. */
  private static final class Tally {
    final int land;
    int least;
    int most;

    Tally(int land) {
      this.land = land;
    }

    void sum(int[] row, int from, int to) {
      least = 0;
      most = 0;
      for (int day = Math.max(from, 0); day <= to && day < row.length; day++) {
        add(row[day], 1);
      }
    }

    /** One night more, or one less with -1. */
    void add(int can, int nights) {
      if ((can >> land & 1) != 0) {
        most += nights;
        if (can == 1 << land) {
          least += nights;
        }
      }
    }
  }

  /** What a shelf can hold. */
  private abstract static class Held {
    /** Its weight, or the refusal of what has none. */
    abstract int heft();

    /** Throws its failure, if it has one. */
    void fail() {
    }

    int failureNumber() {
      return NO_FAILURE;
    }
  }

  private static final class Row extends Held {
    final boolean wide;
    // Bytes stand in shorts too: one kind of row serves both.
    final short[] cells;

    Row(boolean wide, int size) {
      this.wide = wide;
      this.cells = new short[Math.max(size, 0)];
    }

    int heft() {
      return OTHER_KIND;
    }

    boolean hasPlaces(int from, int size) {
      return from >= 0 && size >= 0 && from <= cells.length - size;
    }
  }

  private static class Span extends Held {
    final int number;
    final int from;
    final int to;
    final int lands;
    int person;
    boolean dropped;

    Span(int number, int person, int from, int to, int lands) {
      this.number = number;
      this.person = person;
      this.from = from;
      this.to = to;
      this.lands = lands;
    }

    int kind() {
      return SPAN;
    }

    /** Whether it counts only for nights of which no mark of another kind tells. */
    boolean givesWay() {
      return false;
    }

    int heft() {
      return 1 + (to - from + 1);
    }

    void fail() {
      throw new IllegalStateException("a mark fails");
    }

    int failureNumber() {
      return 100 + number;
    }
  }

  private static class Bill extends Span {
    Bill(int number, int person, int day, int land) {
      super(number, person, day, day, 1 << land);
    }

    int kind() {
      return BILL;
    }

    int heft() {
      return super.heft() + 50;
    }
  }

  private static final class Stamp extends Span {
    Stamp(int number, int person, int from, int to, int land) {
      super(number, person, from, to, ALL_LANDS & ~(1 << land));
    }

    int kind() {
      return STAMP;
    }

    int heft() {
      return super.heft() + 70;
    }
  }

  private static final class Word extends Bill {
    Word(int number, int person, int day, int land) {
      super(number, person, day, land);
    }

    int kind() {
      return WORD;
    }

    boolean givesWay() {
      return true;
    }

    int heft() {
      return 2 * super.heft();
    }

    void fail() {
    }
  }

  private static class Window extends Held {
    final int land;
    final int n;
    // How many nights it looks at, the last being that of the day.
    final int reach;
    // The nights that it looks at on the day at hand, and on a trip's last day.
    final Tally here;
    final Tally end;
    int endFrom;

    Window(int land, int n, int reach) {
      this.land = land;
      this.n = n;
      this.reach = reach;
      this.here = new Tally(land);
      this.end = new Tally(land);
    }

    int kind() {
      return WINDOW;
    }

    boolean bindsTrips() {
      return true;
    }

    int verdict(Tally nights, int day) {
      if (nights.most <= n) {
        return SURELY;
      }
      return nights.least > n ? NOT : PERHAPS;
    }

    void lookAt(int[] row, int day) {
      here.sum(row, day - reach + 1, day);
    }

    /** To a day from the one before it. */
    void moveTo(int[] row, int day) {
      if (day < 0 || day >= row.length) {
        return;
      }
      here.add(row[day], 1);
      if (day >= reach) {
        here.add(row[day - reach], -1);
      }
    }

    void lookAtEnd(int[] row, int day) {
      endFrom = day - reach + 1;
      end.sum(row, endFrom, day);
    }

    /** The night of the day at hand is told in another way. */
    void change(int day, int before, int now) {
      here.add(before, -1);
      here.add(now, 1);
      if (day >= endFrom) {
        end.add(before, -1);
        end.add(now, 1);
      }
    }

    int heft() {
      return 10 + kind() + n;
    }

    void fail() {
      throw new IllegalStateException("a law fails");
    }

    int failureNumber() {
      return land;
    }
  }

  /** A window of one night more than may be in the land. */
  private static class Stretch extends Window {
    Stretch(int land, int n) {
      super(land, n, n + 1);
    }

    int kind() {
      return STRETCH;
    }

    int heft() {
      return super.heft() + 100;
    }
  }

  private static final class Needs extends Window {
    Needs(int land, int n, int w) {
      super(land, n, w);
    }

    int kind() {
      return NEEDS;
    }

    boolean bindsTrips() {
      return false;
    }

    int verdict(Tally nights, int day) {
      if (nights.least >= n) {
        return SURELY;
      }
      return nights.most < n ? NOT : PERHAPS;
    }

    int heft() {
      return super.heft() + reach;
    }

    void fail() {
    }
  }

  private static final class Absent extends Stretch {
    Absent(int land, int n) {
      super(land, n);
    }

    int kind() {
      return ABSENT;
    }

    int verdict(Tally nights, int day) {
      if (day < n || nights.least > 0) {
        return SURELY;
      }
      return nights.most == 0 ? NOT : PERHAPS;
    }

    int heft() {
      return 2 * super.heft();
    }
  }
}
