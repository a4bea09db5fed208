/** Each promise by itself: ordinary inputs, the edges, and wrong inputs. */
public final class PromiseTests {
  private static final int LOW = Integer.MIN_VALUE;
  private static final int HIGH = Integer.MAX_VALUE;

  public static void main(String[] args) {
    newObject();
    person();
    span();
    slept();
    wordsGiveWay();
    stamp();
    drop();
    mark();
    can();
    nights();
    sure();
    join();
    joinedPeople();
    joinAtTheEnds();
    law();
    keptWindow();
    keptStretch();
    keptNeeds();
    keptAbsent();
    keptRefusals();
    first();
    broken();
    free();
    freeLandOfRest();
    freeByKinds();
    trip();
    claim();
    claims();
    treaty();
    decides();
    taxed();
    quarrels();
    count();
    keep();
    make();
    element();
    copy();
    weight();
    toss();
    orderOfRefusals();
    fullBook();
    wildArguments();
    Due.end("PromiseTests");
  }

  private static void is(String what, long got, long want) {
    Due.is(what, got, want);
  }

  /** A book with one person of a home and a passport. */
  private static NightBook one(int home, int passport) {
    NightBook book = new NightBook();
    book.person(home, passport);
    return book;
  }

  /** 1 for IllegalArgumentException, 2 for IllegalStateException, 0 for an answer. */
  private static int thrown(NightBook book, int d, int i) {
    try {
      book.element(d, i);
      return 0;
    } catch (IllegalArgumentException e) {
      return 1;
    } catch (IllegalStateException e) {
      return 2;
    }
  }

  private static void newObject() {
    NightBook book = new NightBook();
    for (int what = 0; what < 6; what++) {
      is("1: count " + what + " of a new book", book.count(what), 0);
    }
    is("1: no person", book.can(0, 0), -1);
    is("1: no mark", book.mark(0, 0), -1);
    is("1: no quarrel", book.quarrels(), 0);
    book.person(0, 0);
    is("1: no law", book.kept(0, 0, 0), -1);
    is("1: no treaty", book.treaty(0, 1, 1), 0);
    for (int d = 0; d < 8; d++) {
      is("1: shelf holds nothing", book.weight(d), -11);
    }
    for (int land = 0; land < 8; land++) {
      is("1: claim at first", book.claim(land, 7), 51);
    }
    is("1: objects are apart", new NightBook().count(0), 0);
  }

  private static void person() {
    NightBook book = new NightBook();
    is("2: home below", book.person(-1, 0), -1);
    is("2: home above", book.person(8, 0), -1);
    is("2: passport below", book.person(0, -1), -1);
    is("2: passport above", book.person(0, 8), -1);
    is("2: refused ones change nothing", book.count(0), 0);
    for (int i = 0; i < 6; i++) {
      is("2: person", book.person(7 - i, i), i);
    }
    is("2: there are 6", book.person(0, 0), -2);
    is("2: -1 is ahead of -2", book.person(8, 0), -1);
    is("2: still 6", book.count(0), 6);
    is("2: nights are open", book.can(5, 399), 255);
  }

  private static void span() {
    NightBook book = one(0, 0);
    is("3: span", book.span(0, 10, 20, 6), 0);
    is("3: before it", book.can(0, 9), 255);
    is("3: from", book.can(0, 10), 6);
    is("3: to", book.can(0, 20), 6);
    is("3: behind it", book.can(0, 21), 255);
    is("3: one night", book.span(0, 20, 20, 12), 1);
    is("3: both", book.can(0, 20), 4);
    is("3: all days, all lands", book.span(0, 0, 399, 255), 2);
    is("3: from above to", book.span(0, 6, 5, 1), -1);
    is("3: lands 0", book.span(0, 5, 6, 0), -1);
    is("3: lands 256", book.span(0, 5, 6, 256), -1);
    is("3: lands below", book.span(0, 5, 6, -1), -1);
    is("3: day below", book.span(0, -1, 6, 1), -1);
    is("3: day above", book.span(0, 5, 400, 1), -1);
    is("3: no person", book.span(1, 5, 6, 1), -1);
    is("3: person below", book.span(-1, 5, 6, 1), -1);
    is("3: a night without lands at the end", book.span(0, 0, 10, 1), -4);
    is("3: a night without lands at the beginning", book.span(0, 20, 30, 3), -4);
    is("3: refused, day 0 is as before", book.can(0, 0), 255);
    is("3: refused, day 30 is as before", book.can(0, 30), 255);
    is("3: refused ones are no marks", book.count(1), 3);
    is("3: the next number", book.span(0, 0, 399, 255), 3);
    for (int i = 4; i < 80; i++) {
      is("3: mark", book.span(0, 100, 100, 255), i);
    }
    is("3: there are 80", book.span(0, 100, 100, 255), -2);
    is("3: -2 is ahead of -4", book.span(0, 10, 10, 1), -2);
    is("3: -1 is ahead of -2", book.span(0, 10, 10, 0), -1);
  }

  private static void slept() {
    NightBook book = one(0, 0);
    is("4: bill", book.slept(0, 0, 7, false), 0);
    is("4: its night", book.can(0, 0), 128);
    is("4: the next night", book.can(0, 1), 255);
    is("4: word", book.slept(0, 399, 3, true), 1);
    is("4: its night", book.can(0, 399), 8);
    is("4: likewise again", book.slept(0, 0, 7, false), 2);
    is("4: another land", book.slept(0, 0, 6, false), -4);
    is("4: another word's land", book.slept(0, 399, 2, true), -4);
    is("4: a bill against a word", book.slept(0, 399, 2, false), 3);
    is("4: the bill counts", book.can(0, 399), 4);
    is("4: day above", book.slept(0, 400, 0, false), -1);
    is("4: day below", book.slept(0, -1, 0, true), -1);
    is("4: land above", book.slept(0, 1, 8, false), -1);
    is("4: land below", book.slept(0, 1, -1, true), -1);
    is("4: no person", book.slept(1, 1, 0, true), -1);
    is("4: refused ones are no marks", book.count(1), 4);
    for (int i = 4; i < 80; i++) {
      book.slept(0, 0, 7, false);
    }
    is("4: there are 80 (bill)", book.slept(0, 0, 6, false), -2);
    is("4: there are 80 (word)", book.slept(0, 5, 6, true), -2);
  }

  private static void wordsGiveWay() {
    NightBook book = one(0, 0);
    book.slept(0, 5, 1, true);
    book.span(0, 5, 5, 255);
    is("4: a span of all lands tells of the night, too", book.can(0, 5), 255);
    is("4: where it doesn't count, no -4", book.slept(0, 5, 2, true), 2);
    is("4: the words would meet", book.drop(1, true), -4);
    is("4: refused: the span still counts", book.mark(1, 5), 0);
    is("4: refused: the night is as before", book.can(0, 5), 255);
    is("4: drop a word", book.drop(0, true), 1);
    is("4: now the span can be dropped", book.drop(1, true), 1);
    is("4: the other word counts", book.can(0, 5), 4);
    is("4: the words would meet again", book.drop(0, false), -4);
    is("4: a stamp tells of the night, too", book.stamp(0, 4, 6, 2), 3);
    is("4: the word gives way", book.can(0, 5), 251);
    is("4: it comes again where it doesn't count", book.drop(0, false), 1);
    is("4: the night", book.can(0, 5), 251);
    is("4: another person's marks are nothing to it", book.person(1, 1), 1);
    is("4: word", book.slept(1, 5, 3, true), 4);
    is("4: it counts", book.can(1, 5), 8);
  }

  private static void stamp() {
    NightBook book = one(0, 0);
    is("5: stamp", book.stamp(0, 3, 5, 7), 0);
    is("5: before", book.can(0, 2), 255);
    is("5: from", book.can(0, 3), 127);
    is("5: to", book.can(0, 5), 127);
    is("5: behind", book.can(0, 6), 255);
    is("5: another", book.stamp(0, 5, 399, 0), 1);
    is("5: both", book.can(0, 5), 126);
    is("5: to the last day", book.can(0, 399), 254);
    book.slept(0, 50, 2, false);
    is("5: no land would be left", book.stamp(0, 40, 60, 2), -4);
    is("5: refused, as before", book.can(0, 40), 254);
    is("5: from above to", book.stamp(0, 5, 4, 0), -1);
    is("5: day below", book.stamp(0, -1, 4, 0), -1);
    is("5: day above", book.stamp(0, 1, 400, 0), -1);
    is("5: land above", book.stamp(0, 1, 4, 8), -1);
    is("5: land below", book.stamp(0, 1, 4, -1), -1);
    is("5: no person", book.stamp(1, 1, 4, 0), -1);
    for (int land = 0; land < 7; land++) {
      is("5: land by land", book.stamp(0, 200, 200, land), 3 + land);
    }
    is("5: one is left", book.can(0, 200), 128);
    is("5: the last one", book.stamp(0, 200, 200, 7), -4);
    for (int i = 10; i < 80; i++) {
      book.stamp(0, 0, 0, 0);
    }
    is("5: there are 80", book.stamp(0, 0, 0, 0), -2);
  }

  private static void drop() {
    NightBook book = one(0, 0);
    book.span(0, 0, 9, 3);
    is("6: it was not dropped", book.drop(0, false), 0);
    is("6: dropped", book.drop(0, true), 1);
    is("6: it counts for nothing", book.can(0, 0), 255);
    is("6: dropped before", book.drop(0, true), 0);
    is("6: told", book.mark(0, 5), 1);
    is("6: against it", book.slept(0, 9, 2, false), 1);
    is("6: a night would have none", book.drop(0, false), -4);
    is("6: refused: still dropped", book.mark(0, 5), 1);
    is("6: refused: nights as before", book.can(0, 0), 255);
    is("6: refused: nights as before", book.can(0, 9), 4);
    is("6: the bill goes", book.drop(1, true), 1);
    is("6: again", book.drop(0, false), 1);
    is("6: it counts", book.can(0, 9), 3);
    is("6: no mark", book.drop(2, true), -1);
    is("6: mark below", book.drop(-1, false), -1);
    is("6: marks stay marks", book.count(1), 2);
  }

  private static void mark() {
    NightBook book = one(0, 0);
    book.person(0, 0);
    book.span(1, 2, 30, 17);
    book.slept(0, 40, 5, false);
    book.stamp(1, 6, 7, 3);
    book.slept(0, 41, 7, true);
    book.drop(2, true);
    int[][] due = {{0, 1, 2, 30, 17, 0}, {1, 0, 40, 40, 32, 0}, {2, 1, 6, 7, 247, 1}, {3, 0, 41, 41, 128, 0}};
    for (int m = 0; m < 4; m++) {
      for (int what = 0; what < 6; what++) {
        is("7: mark " + m + ", " + what, book.mark(m, what), due[m][what]);
      }
    }
    is("7: no mark", book.mark(4, 0), -1);
    is("7: mark below", book.mark(-1, 0), -1);
    is("7: what above", book.mark(0, 6), -1);
    is("7: what below", book.mark(0, -1), -1);
    is("7: joined", book.join(0, 1), 2);
    is("7: the person as it is now", book.mark(0, 1), 0);
  }

  private static void can() {
    NightBook book = one(0, 0);
    is("8: open", book.can(0, 0), 255);
    book.span(0, 0, 10, 15);
    book.stamp(0, 5, 15, 0);
    book.slept(0, 7, 3, false);
    is("8: span", book.can(0, 4), 15);
    is("8: span and stamp", book.can(0, 5), 14);
    is("8: and bill", book.can(0, 7), 8);
    is("8: stamp", book.can(0, 11), 254);
    is("8: last day", book.can(0, 399), 255);
    is("8: day above", book.can(0, 400), -1);
    is("8: day below", book.can(0, -1), -1);
    is("8: no person", book.can(1, 0), -1);
    is("8: person below", book.can(-1, 0), -1);
  }

  private static void nights() {
    NightBook book = one(0, 0);
    book.span(0, 10, 19, 1);
    book.span(0, 20, 24, 3);
    is("9: least", book.nights(0, 0, 0, 399, false), 10);
    is("9: most", book.nights(0, 0, 0, 399, true), 400);
    is("9: most of another", book.nights(0, 1, 0, 399, true), 390);
    is("9: least of another", book.nights(0, 1, 0, 399, false), 0);
    is("9: from is with it", book.nights(0, 0, 19, 24, false), 1);
    is("9: to is with it", book.nights(0, 0, 0, 10, false), 1);
    is("9: most in part", book.nights(0, 1, 15, 21, true), 2);
    is("9: one day", book.nights(0, 0, 399, 399, true), 1);
    is("9: from above to", book.nights(0, 0, 6, 5, true), -1);
    is("9: day below", book.nights(0, 0, -1, 5, true), -1);
    is("9: day above", book.nights(0, 0, 0, 400, false), -1);
    is("9: land above", book.nights(0, 8, 0, 5, false), -1);
    is("9: land below", book.nights(0, -1, 0, 5, false), -1);
    is("9: no person", book.nights(1, 0, 0, 5, false), -1);
  }

  private static void sure() {
    NightBook book = one(0, 0);
    is("10: none", book.sure(0, 0, 399), 0);
    book.span(0, 10, 19, 4);
    book.slept(0, 30, 0, true);
    book.slept(0, 31, 7, false);
    book.span(0, 40, 49, 3);
    is("10: all", book.sure(0, 0, 399), 12);
    book.stamp(0, 45, 60, 0);
    is("10: one land is left by two marks", book.sure(0, 40, 60), 5);
    is("10: from is with it", book.sure(0, 19, 29), 1);
    is("10: to is with it", book.sure(0, 20, 30), 1);
    is("10: from above to", book.sure(0, 6, 5), -1);
    is("10: day below", book.sure(0, -1, 5), -1);
    is("10: day above", book.sure(0, 0, 400), -1);
    is("10: no person", book.sure(1, 0, 5), -1);
  }

  private static void join() {
    NightBook book = one(0, 0);
    book.person(1, 1);
    book.span(0, 0, 5, 3);
    book.span(1, 5, 9, 6);
    book.slept(1, 100, 4, true);
    book.slept(1, 8, 1, false);
    book.drop(3, true);
    is("11: itself", book.join(0, 0), -1);
    is("11: no person", book.join(0, 2), -1);
    is("11: no person", book.join(2, 0), -1);
    is("11: person below", book.join(-1, 0), -1);
    is("11: three came, a dropped one, too", book.join(0, 1), 3);
    is("11: both tell", book.can(0, 5), 2);
    is("11: the first one's", book.can(0, 4), 3);
    is("11: the second one's", book.can(0, 9), 6);
    is("11: its word counts", book.can(0, 100), 16);
    is("11: the dropped one doesn't", book.can(0, 8), 6);
    is("11: the second one has none", book.can(1, 5), 255);
    is("11: the second one has none", book.sure(1, 0, 399), 0);
    is("11: person of a mark", book.mark(1, 1), 0);
    is("11: the second one was joined", book.join(0, 1), -3);
    is("11: the first of the two was joined", book.join(1, 0), -3);
    is("11: itself is -1, joined or not", book.join(1, 1), -1);
    is("11: joined", book.count(5), 1);
  }

  private static void joinedPeople() {
    NightBook book = one(0, 0);
    book.person(1, 1);
    book.person(2, 2);
    book.slept(0, 5, 0, true);
    book.slept(1, 5, 1, true);
    is("11: words that meet", book.join(0, 1), -4);
    is("11: refused: nobody is joined", book.count(5), 0);
    is("11: refused: marks stay", book.mark(1, 1), 1);
    is("11: refused: nights stay", book.can(0, 5), 1);
    is("11: refused: nights stay", book.can(1, 5), 2);
    book.span(0, 5, 5, 7);
    is("11: words give way to the first one's span", book.join(0, 1), 1);
    is("11: the night", book.can(0, 5), 7);
    is("3: joined", book.span(1, 0, 0, 1), -3);
    is("4: joined", book.slept(1, 0, 0, false), -3);
    is("4: joined", book.slept(1, 0, 0, true), -3);
    is("5: joined", book.stamp(1, 0, 0, 0), -3);
    is("3: -1 is ahead of -3", book.span(1, 1, 0, 1), -1);
    is("11: the first one can be joined to a third", book.join(2, 0), 3);
    is("11: all marks are the third's", book.mark(1, 1), 2);
    is("11: the third one's night", book.can(2, 5), 7);
    is("11: none is left", book.can(0, 5), 255);
    is("11: two are joined", book.count(5), 2);
    is("6: a mark that came is dropped for the third", book.drop(2, true), -4);
    is("6: one of the words", book.drop(1, true), 1);
    is("6: now it can go", book.drop(2, true), 1);
    is("6: the word that is left", book.can(2, 5), 1);
    for (int i = 3; i < 80; i++) {
      book.span(2, 0, 0, 255);
    }
    is("3: -2 is ahead of -3", book.span(1, 0, 0, 1), -2);
  }

  private static void joinAtTheEnds() {
    for (int day = 0; day < 400; day += 399) {
      NightBook book = one(0, 0);
      book.person(1, 1);
      book.slept(0, day, 0, false);
      book.slept(1, day, 1, false);
      is("11: a night without lands, day " + day, book.join(0, 1), -4);
      book.drop(0, true);
      is("11: one came, day " + day, book.join(0, 1), 1);
      is("11: its night, day " + day, book.can(0, day), 2);
    }
  }

  private static void law() {
    NightBook book = one(0, 0);
    is("12: told 8", book.law(8, 1, 1), -1);
    is("12: told 9", book.law(9, 1, 1), -1);
    is("12: told 38", book.law(38, 1, 1), -1);
    is("12: told 40", book.law(40, 1, 1), -1);
    is("12: told below", book.law(-1, 1, 1), -1);
    is("12: n below", book.law(0, -1, 1), -1);
    is("12: n above", book.law(0, 201, 1), -1);
    is("12: w below", book.law(0, 1, 0), -1);
    is("12: w above", book.law(0, 1, 201), -1);
    is("12: w of needs below", book.law(20, 1, 0), -1);
    is("12: w of needs above", book.law(20, 1, 201), -1);
    is("12: n of stretch above", book.law(10, 201, 1), -1);
    is("12: n of absent below", book.law(30, -1, 1), -1);
    is("12: refused ones are no laws", book.count(2), 0);
    is("12: window", book.law(7, 0, 1), 0);
    is("12: window", book.law(0, 200, 200), 1);
    is("12: stretch, any w", book.law(17, 200, -5), 2);
    is("12: absent, any w", book.law(37, 0, 1000), 3);
    is("12: needs", book.law(27, 200, 200), 4);
    for (int i = 5; i < 12; i++) {
      is("12: law", book.law(20, 0, 1), i);
    }
    is("12: there are 12", book.law(20, 0, 1), -2);
    is("12: -1 is ahead of -2", book.law(20, 0, 0), -1);
  }

  private static void keptWindow() {
    NightBook book = one(0, 0);
    book.law(1, 2, 4);
    book.stamp(0, 0, 399, 1);
    book.drop(0, true);
    is("13: fewer nights at the beginning", book.kept(0, 0, 1), 2);
    is("13: can be above", book.kept(0, 0, 2), 1);
    book.span(0, 10, 12, 2);
    is("13: surely above", book.kept(0, 0, 12), 0);
    is("13: still in the span", book.kept(0, 0, 13), 0);
    is("13: not any more", book.kept(0, 0, 14), 1);
    book.stamp(0, 13, 20, 1);
    is("13: most is n", book.kept(0, 0, 14), 2);
    is("13: least is n", book.kept(0, 0, 11), 1);
    book.law(1, 0, 1);
    is("13: n 0", book.kept(1, 0, 13), 2);
    is("13: n 0, there", book.kept(1, 0, 12), 0);
    book.law(1, 200, 200);
    is("13: never above", book.kept(2, 0, 399), 2);
  }

  private static void keptStretch() {
    NightBook book = one(0, 0);
    book.law(11, 2, 0);
    is("13: below n", book.kept(0, 0, 1), 2);
    is("13: perhaps", book.kept(0, 0, 2), 1);
    book.span(0, 0, 2, 2);
    is("13: all there on day n", book.kept(0, 0, 2), 0);
    is("13: one is open", book.kept(0, 0, 3), 1);
    book.stamp(0, 3, 3, 1);
    is("13: one is away", book.kept(0, 0, 3), 2);
    is("13: one is away, last day of three", book.kept(0, 0, 5), 2);
    is("13: behind it", book.kept(0, 0, 6), 1);
    book.law(11, 0, 0);
    is("13: n 0, day 0", book.kept(1, 0, 0), 0);
    is("13: n 0, away", book.kept(1, 0, 3), 2);
    book.law(12, 200, 0);
    is("13: n 200, below", book.kept(2, 0, 199), 2);
    is("13: n 200, lands else", book.kept(2, 0, 200), 2);
    is("13: n 200, open behind", book.kept(2, 0, 399), 1);
  }

  private static void keptNeeds() {
    NightBook book = one(0, 0);
    book.law(23, 2, 3);
    is("13: too few nights yet", book.kept(0, 0, 0), 0);
    is("13: perhaps", book.kept(0, 0, 1), 1);
    book.span(0, 4, 5, 8);
    is("13: surely", book.kept(0, 0, 5), 2);
    is("13: still", book.kept(0, 0, 6), 2);
    is("13: one is sure, two can be", book.kept(0, 0, 7), 1);
    book.span(0, 6, 7, 1);
    is("13: one only", book.kept(0, 0, 7), 0);
    book.law(23, 0, 1);
    is("13: n 0", book.kept(1, 0, 7), 2);
    book.law(23, 5, 3);
    is("13: n above w", book.kept(2, 0, 5), 0);
  }

  private static void keptAbsent() {
    NightBook book = one(0, 0);
    book.law(32, 2, 0);
    book.stamp(0, 0, 2, 2);
    is("13: below n", book.kept(0, 0, 1), 2);
    is("13: all away on day n", book.kept(0, 0, 2), 0);
    is("13: one is open", book.kept(0, 0, 3), 1);
    book.slept(0, 3, 2, false);
    is("13: one is there", book.kept(0, 0, 3), 2);
    is("13: one is there, first of three", book.kept(0, 0, 5), 2);
    is("13: behind it", book.kept(0, 0, 6), 1);
    book.law(32, 0, 0);
    is("13: n 0, away", book.kept(1, 0, 0), 0);
    is("13: n 0, there", book.kept(1, 0, 3), 2);
    is("13: n 0, open", book.kept(1, 0, 4), 1);
  }

  private static void keptRefusals() {
    NightBook book = one(0, 0);
    book.law(0, 1, 1);
    is("13: no law", book.kept(1, 0, 0), -1);
    is("13: law below", book.kept(-1, 0, 0), -1);
    is("13: no person", book.kept(0, 1, 0), -1);
    is("13: person below", book.kept(0, -1, 0), -1);
    is("13: day above", book.kept(0, 0, 400), -1);
    is("13: day below", book.kept(0, 0, -1), -1);
  }

  private static void first() {
    NightBook book = one(0, 0);
    book.law(1, 2, 5);
    book.law(30, 9, 0);
    book.span(0, 0, 399, 1);
    is("14: none", book.first(0, 0, 0, false), -2);
    is("14: none", book.first(1, 0, 0, true), -2);
    book.drop(0, true);
    book.span(0, 0, 99, 1);
    book.span(0, 100, 119, 2);
    is("14: not kept", book.first(0, 0, 0, true), 102);
    is("14: not surely", book.first(0, 0, 0, false), 102);
    is("14: from that day on", book.first(0, 0, 102, true), 102);
    is("14: from a later day on", book.first(0, 0, 110, true), 110);
    is("14: the last one", book.first(0, 0, 121, true), 121);
    is("14: behind it", book.first(0, 0, 122, true), -2);
    is("14: perhaps only", book.first(0, 0, 123, false), 123);
    is("14: last day", book.first(0, 0, 399, false), 399);
    is("14: absent", book.first(1, 0, 0, true), 109);
    is("14: absent, perhaps", book.first(1, 0, 120, false), 120);
    is("14: no law", book.first(2, 0, 0, true), -1);
    is("14: law below", book.first(-1, 0, 0, true), -1);
    is("14: no person", book.first(0, 1, 0, true), -1);
    is("14: day above", book.first(0, 0, 400, true), -1);
    is("14: day below", book.first(0, 0, -1, false), -1);
  }

  private static void broken() {
    NightBook book = one(0, 0);
    is("15: no laws", book.broken(0), 0);
    for (int i = 0; i < 12; i++) {
      book.law(10 + i % 8, 3, 0);
    }
    is("15: perhaps is not broken", book.broken(0), 0);
    book.span(0, 396, 399, 8);
    is("15: on the last day", book.broken(0), 1 << 3 | 1 << 11);
    book.span(0, 0, 3, 1);
    is("15: on day n", book.broken(0), 1 << 3 | 1 << 11 | 1 | 1 << 8);
    book.person(0, 0);
    is("15: another person", book.broken(1), 0);
    NightBook onDay0 = one(0, 0);
    onDay0.law(21, 1, 200);
    onDay0.span(0, 0, 0, 1);
    is("15: on day 0 alone", onDay0.first(0, 0, 1, true), -2);
    is("15: on day 0 alone", onDay0.broken(0), 1);
    is("15: no person", book.broken(2), -1);
    is("15: person below", book.broken(-1), -1);
  }

  private static void free() {
    NightBook book = one(0, 0);
    is("16: no laws", book.free(0, 1, 0, 399), 400);
    book.slept(0, 55, 2, false);
    is("16: whatever marks tell", book.free(0, 1, 50, 60), 11);
    book.law(1, 3, 10);
    is("16: nights before a can be there, till all but two are past", book.free(0, 1, 100, 109), 3);
    is("16: the first of these", book.trip(0, 1, 100, 109, 0), 107);
    is("16: seven days are too few", book.free(0, 1, 100, 106), 0);
    book.span(0, 97, 98, 2);
    book.stamp(0, 80, 96, 1);
    book.stamp(0, 99, 99, 1);
    is("16: two were there; a third may, and more when they're past", book.free(0, 1, 100, 119), 6);
    is("16: one day", book.free(0, 1, 100, 100), 1);
    is("16: marks stay", book.can(0, 100), 255);
    is("16: marks stay", book.can(0, 55), 4);
    book.law(25, 100, 100);
    is("16: needs doesn't bind", book.free(0, 1, 100, 119), 6);
    book.law(15, 3, 0);
    is("16: a law of a third land, surely kept", book.free(0, 1, 100, 119), 6);
    book.law(35, 3, 0);
    is("16: a law of a third land that isn't", book.free(0, 1, 100, 119), 0);
    is("16: a above b", book.free(0, 1, 6, 5), -1);
    is("16: day below", book.free(0, 1, -1, 5), -1);
    is("16: day above", book.free(0, 1, 0, 400), -1);
    is("16: land above", book.free(0, 8, 0, 5), -1);
    is("16: land below", book.free(0, -1, 0, 5), -1);
    is("16: no person", book.free(1, 0, 0, 5), -1);
  }

  private static void freeLandOfRest() {
    // One night in a row: the land lets every other night, the rest only the last two.
    for (int r = 0; r < 8; r++) {
      NightBook book = one(4, 2);
      book.law(10 + r, 1, 0);
      is("16: rest at home, law of " + r, book.free(0, 1, 0, 4), r == 1 ? 3 : r == 4 ? 2 : 5);
      is("16: rest by the passport, law of " + r, book.free(0, 4, 0, 4), r == 4 ? 3 : r == 2 ? 2 : 5);
    }
    NightBook book = one(3, 3);
    book.law(10, 1, 0);
    is("16: rest in the least land", book.free(0, 3, 0, 4), 2);
    book = one(0, 0);
    book.law(11, 1, 0);
    is("16: rest in land 1, if 0 is the land", book.free(0, 0, 0, 4), 2);
  }

  private static void freeByKinds() {
    NightBook book = one(0, 0);
    book.law(11, 2, 0);
    // Nights 8 and 9 can have been there, so 10 would perhaps be the third.
    int[] days = {11, 12, 14, 15, 17, 18};
    is("16: stretch there", book.free(0, 1, 10, 19), 6);
    for (int i = 0; i < 6; i++) {
      is("16: stretch there, day by day", book.trip(0, 1, 10, 19, i), days[i]);
    }
    book = one(0, 0);
    book.law(31, 4, 0);
    is("16: absent there: only the last may be", book.free(0, 1, 10, 19), 5);
    is("16: the first of them", book.trip(0, 1, 10, 19, 0), 15);
    book = one(0, 0);
    book.span(0, 0, 9, 1);
    book.law(30, 4, 0);
    is("16: absent from the land of rest", book.free(0, 1, 10, 19), 8);
    is("16: rest comes after four", book.trip(0, 1, 10, 19, 4), 15);
    book = one(0, 0);
    book.span(0, 0, 9, 2);
    book.law(0, 4, 5);
    is("16: window of the land of rest", book.free(0, 1, 10, 19), 5);
    is("16: none before, the rest would be too long", book.trip(0, 1, 10, 19, 0), 15);
    book.law(0, 3, 5);
    is("16: no night alone makes the rest short enough", book.free(0, 1, 10, 19), 0);
    book = one(0, 0);
    book.law(30, 2, 0);
    is("16: absent from the land of rest, from day 0 on", book.free(0, 1, 0, 5), 4);
    is("16: the first", book.trip(0, 1, 0, 5, 0), 0);
    is("16: rest on day 2", book.trip(0, 1, 0, 5, 2), 3);
    book = one(0, 0);
    book.law(1, 2, 7);
    is("16: surely, not perhaps", book.free(0, 1, 3, 9), 2);
    is("16: the first night that is so", book.trip(0, 1, 3, 9, 0), 8);
  }

  private static void trip() {
    NightBook book = one(0, 0);
    is("17: from 0", book.trip(0, 1, 5, 9, 0), 5);
    is("17: the last", book.trip(0, 1, 5, 9, 4), 9);
    is("17: not so many", book.trip(0, 1, 5, 9, 5), -2);
    is("17: not so many", book.trip(0, 1, 5, 9, HIGH), -2);
    book.span(0, 0, 4, 1);
    book.law(11, 1, 0);
    int[] days = {5, 7, 9};
    for (int i = 0; i < 3; i++) {
      is("17: every other day", book.trip(0, 1, 5, 9, i), days[i]);
    }
    is("17: not so many", book.trip(0, 1, 5, 9, 3), -2);
    is("17: i below", book.trip(0, 1, 5, 9, -1), -1);
    is("17: a above b", book.trip(0, 1, 6, 5, 0), -1);
    is("17: day below", book.trip(0, 1, -1, 5, 0), -1);
    is("17: day above", book.trip(0, 1, 0, 400, 0), -1);
    is("17: land above", book.trip(0, 8, 0, 5, 0), -1);
    is("17: no person", book.trip(1, 0, 0, 5, 0), -1);
  }

  private static void claim() {
    NightBook book = one(0, 0);
    is("18: at first", book.claim(3, 1), 51);
    is("18: before", book.claim(3, 100), 1);
    is("18: n above", book.claim(3, 101), -1);
    is("18: n 0", book.claim(3, 0), -1);
    is("18: land above", book.claim(8, 5), -1);
    is("18: land below", book.claim(-1, 5), -1);
    is("18: refused ones change nothing", book.claim(3, 50), 100);
    is("18: another land", book.claim(4, 50), 51);
  }

  private static void claims() {
    NightBook book = one(0, 0);
    book.span(0, 100, 149, 2);
    book.span(0, 150, 199, 1);
    is("19: 50 are not 51", book.claims(1, 0, 1), 0);
    book.claim(1, 50);
    is("19: 50 are 50", book.claims(1, 0, 1), 2);
    is("19: the year before", book.claims(1, 0, 0), 1);
    is("19: the year after", book.claims(1, 0, 2), 1);
    book.span(0, 350, 399, 4);
    is("19: most is 50", book.claims(1, 0, 3), 1);
    book.claim(1, 51);
    is("19: most is below", book.claims(1, 0, 3), 0);
    is("19: land above", book.claims(8, 0, 0), -1);
    is("19: land below", book.claims(-1, 0, 0), -1);
    is("19: no person", book.claims(0, 1, 0), -1);
    is("19: year above", book.claims(0, 0, 4), -1);
    is("19: year below", book.claims(0, 0, -1), -1);
  }

  private static void treaty() {
    NightBook book = one(0, 0);
    int[] right = {0, 1, 2, 3, 6, 7, 9, 11, 13, 14, 27, 30, 39, 45, 54, 57};
    int made = 0;
    for (int tests = -2; tests < 70; tests++) {
      boolean is = false;
      for (int row : right) {
        is |= row == tests;
      }
      is("20: tests " + tests, book.treaty(2, 5, tests), is ? made == 0 ? 0 : 1 : -1);
      made += is ? 1 : 0;
    }
    is("20: one of two lands", book.count(3), 1);
    is("20: the other way round it's the same", book.treaty(5, 2, 1), 1);
    is("20: still one", book.count(3), 1);
    is("20: another pair", book.treaty(5, 3, 1), 0);
    is("20: two", book.count(3), 2);
    is("20: one land twice", book.treaty(3, 3, 1), -1);
    is("20: land above", book.treaty(8, 3, 1), -1);
    is("20: land below", book.treaty(3, -1, 1), -1);
    is("20: tests low", book.treaty(3, 4, LOW), -1);
    is("20: refused ones are none", book.count(3), 2);
    is("20: nor are they put in place", book.treaty(3, 4, 1), 0);
  }

  private static void decides() {
    NightBook book = one(0, 1);
    is("21: no treaty", book.decides(0, 1, 0, 0), -2);
    book.treaty(0, 1, 1);
    is("21: home", book.decides(0, 1, 0, 0), 0);
    is("21: home, the other way round", book.decides(1, 0, 0, 0), 0);
    book.treaty(0, 1, 3);
    is("21: passport, in place of it", book.decides(0, 1, 0, 0), 1);
    book.treaty(0, 1, 7);
    is("21: the first test decides (passport, home)", book.decides(0, 1, 0, 0), 1);
    book.treaty(0, 1, 13);
    is("21: the first test decides (home, passport)", book.decides(0, 1, 0, 0), 0);
    book.treaty(0, 1, 2);
    is("21: nights don't tell them apart", book.decides(0, 1, 0, 0), -2);
    book.span(0, 0, 49, 1);
    book.span(0, 50, 99, 6);
    is("21: least 50 is not above most 50", book.decides(0, 1, 0, 0), -2);
    book.stamp(0, 99, 99, 1);
    is("21: least 50 is above most 49", book.decides(0, 1, 0, 0), 0);
    is("21: the other way round", book.decides(1, 0, 0, 0), 0);
    is("21: another year", book.decides(0, 1, 0, 1), -2);
    book.treaty(0, 1, 14);
    is("21: nights first", book.decides(0, 1, 0, 0), 0);
    is("21: passport where nights don't tell", book.decides(0, 1, 0, 1), 1);
    book.treaty(2, 3, 57);
    is("21: none of the three", book.decides(2, 3, 0, 1), -2);
    book.treaty(0, 2, 0);
    is("21: a treaty without tests", book.decides(0, 2, 0, 0), -2);
    decidesByNights(book);
    is("21: one land twice", book.decides(0, 0, 0, 0), -1);
    is("21: land above", book.decides(0, 8, 0, 0), -1);
    is("21: land below", book.decides(-1, 1, 0, 0), -1);
    is("21: no person", book.decides(0, 1, 1, 0), -1);
    is("21: year above", book.decides(0, 1, 0, 4), -1);
    is("21: year below", book.decides(0, 1, 0, -1), -1);
  }

  private static void decidesByNights(NightBook book) {
    book.treaty(3, 5, 2);
    book.span(0, 200, 259, 32);
    book.span(0, 260, 299, 72);
    is("21: most 40 is not 60", book.decides(3, 5, 0, 2), 5);
    is("21: the other way round", book.decides(5, 3, 0, 2), 5);
    book.treaty(5, 6, 2);
    book.span(0, 300, 349, 96);
    book.span(0, 350, 399, 64);
    is("21: least 50 is not above most 50", book.decides(5, 6, 0, 3), -2);
    is("21: the other way round", book.decides(6, 5, 0, 3), -2);
    book.treaty(6, 7, 2);
    book.stamp(0, 0, 0, 6);
    book.stamp(0, 100, 109, 7);
    is("21: most above most is not enough", book.decides(6, 7, 0, 1), -2);
    is("21: the other way round", book.decides(7, 6, 0, 1), -2);
  }

  private static void taxed() {
    NightBook book = one(0, 1);
    is("22: none claims", book.taxed(0, 0), -2);
    for (int land = 0; land < 3; land++) {
      book.claim(land, 20);
    }
    is("22: perhaps is not surely", book.taxed(0, 0), -2);
    book.span(0, 0, 19, 4);
    is("22: one claims", book.taxed(0, 0), 2);
    is("22: of that year", book.taxed(0, 1), -2);
    book.span(0, 20, 39, 1);
    is("22: two claim, no treaty", book.taxed(0, 0), -3);
    book.treaty(0, 2, 1);
    is("22: home", book.taxed(0, 0), 0);
    book.treaty(0, 2, 2);
    is("22: nights don't tell", book.taxed(0, 0), -3);
    book.treaty(0, 2, 6);
    is("22: home behind nights", book.taxed(0, 0), 0);
    book.span(0, 40, 59, 2);
    is("22: three claim", book.taxed(0, 0), -3);
    book.treaty(0, 1, 3);
    is("22: a treaty for 1, none of 1 and 2", book.taxed(0, 0), -3);
    book.treaty(1, 2, 3);
    is("22: 1 is decided for against each", book.taxed(0, 0), 1);
    book.treaty(0, 1, 1);
    is("22: 0 is decided for against each", book.taxed(0, 0), 0);
    book.treaty(0, 2, 3);
    is("22: 0 against 1, 1 against 2, none of 0 and 2", book.taxed(0, 0), -3);
    book.claim(2, 21);
    is("22: 2 claims no more", book.taxed(0, 0), 0);
    is("22: no person", book.taxed(1, 0), -1);
    is("22: person below", book.taxed(-1, 0), -1);
    is("22: year above", book.taxed(0, 4), -1);
    is("22: year below", book.taxed(0, -1), -1);
  }

  private static void quarrels() {
    NightBook book = one(0, 1);
    book.person(2, 0);
    for (int land = 0; land < 2; land++) {
      book.claim(land, 50);
    }
    for (int year = 0; year < 4; year++) {
      is("23: so far", book.quarrels(), 2 * year);
      for (int person = 0; person < 2; person++) {
        book.span(person, 100 * year, 100 * year + 49, 1);
        book.span(person, 100 * year + 50, 100 * year + 99, 2);
      }
    }
    is("23: all", book.quarrels(), 8);
    book.treaty(0, 1, 1);
    is("23: home tells of one person", book.quarrels(), 4);
    book.treaty(0, 1, 13);
    is("23: passport of the other", book.quarrels(), 0);
    book.treaty(0, 1, 0);
    is("23: again", book.quarrels(), 8);
    is("23: the same marks", book.join(0, 1), 8);
    is("23: joined people are one", book.quarrels(), 4);
  }

  private static void count() {
    NightBook book = one(0, 0);
    book.person(0, 0);
    book.person(0, 0);
    for (int i = 0; i < 7; i++) {
      book.span(0, i, i, 1);
    }
    book.law(0, 0, 1);
    book.law(0, 0, 1);
    for (int i = 1; i < 5; i++) {
      book.treaty(0, i, 1);
    }
    for (int i = 0; i < 5; i++) {
      book.drop(i, true);
    }
    book.drop(4, false);
    book.drop(3, false);
    book.join(0, 1);
    int[] due = {3, 7, 2, 4, 3, 1};
    for (int what = 0; what < 6; what++) {
      is("24: count " + what, book.count(what), due[what]);
    }
    is("24: below", book.count(-1), -1);
    is("24: above", book.count(6), -1);
  }

  private static void keep() {
    NightBook book = one(0, 0);
    book.law(4, 5, 6);
    book.slept(0, 3, 7, false);
    book.stamp(0, 10, 19, 7);
    is("25: law", book.keep(0, 1, 0), 0);
    is("25: it's held", book.toss(0), 4);
    is("25: mark", book.keep(0, 2, 1), 0);
    is("25: it's held in its place", book.toss(0), 101);
    is("25: bytes", book.keep(1, 3, 0), 0);
    is("25: above 127 less 256", book.element(1, 3), -128);
    is("25: open", book.element(1, 0), -1);
    is("25: up to 127", book.element(1, 10), 127);
    is("25: the last", book.element(1, 399), -1);
    is("25: no more", thrown(book, 1, 400), 2);
    is("25: shorts", book.keep(2, 4, 0), 0);
    is("25: most", book.element(2, 0), 399);
    is("25: most of the last", book.element(2, 7), 390);
    is("25: no more", thrown(book, 2, 8), 2);
    book.slept(0, 0, 2, false);
    is("25: a row stays as it was", book.element(1, 0), -1);
    is("25: a row stays as it was", book.element(2, 0), 399);
    book.keep(1, 3, 0);
    is("25: a new row", book.element(1, 0), 4);
    is("25: nothing", book.keep(1, 0, -7), 0);
    is("25: nothing is held", book.weight(1), -11);
    is("25: shelf above", book.keep(8, 0, 0), -1);
    is("25: shelf below", book.keep(-1, 0, 0), -1);
    is("25: what above", book.keep(0, 5, 0), -1);
    is("25: what below", book.keep(0, -1, 0), -1);
    is("25: no law", book.keep(0, 1, 1), -1);
    is("25: no mark", book.keep(0, 2, 3), -1);
    is("25: no person", book.keep(0, 3, 1), -1);
    is("25: no person", book.keep(0, 4, 1), -1);
    is("25: k below", book.keep(0, 1, -1), -1);
    is("25: k below", book.keep(0, 4, -1), -1);
    is("25: refused ones change nothing", book.toss(0), 101);
    is("25: last shelf", book.keep(7, 1, 0), 0);
  }

  private static void make() {
    NightBook book = one(0, 0);
    is("26: bytes", book.make(0, 3, 2), 0);
    is("26: 0", book.element(0, 1), 0);
    is("26: no more", thrown(book, 0, 2), 2);
    is("26: shorts", book.make(7, 4, 60), 0);
    is("26: 0", book.element(7, 59), 0);
    is("26: none", book.make(1, 4, 0), 0);
    is("26: it's a row", book.weight(1), -12);
    is("26: no element", thrown(book, 1, 0), 2);
    is("26: size below 0", book.make(0, 3, -1), -14);
    is("26: size below 0", book.make(0, 4, LOW), -14);
    is("26: size above", book.make(0, 3, 61), -1);
    is("26: what", book.make(0, 2, 1), -1);
    is("26: what", book.make(0, 5, 1), -1);
    is("26: shelf above", book.make(8, 3, 1), -1);
    is("26: shelf below", book.make(-1, 3, 1), -1);
    is("26: -1 is ahead of -14", book.make(0, 2, -1), -1);
    is("26: refused ones change nothing", thrown(book, 0, 1), 0);
    is("26: bytes and shorts are two kinds", book.copy(0, 0, 7, 0, 1), -12);
  }

  private static void element() {
    NightBook book = one(0, 0);
    book.law(0, 0, 1);
    book.make(0, 3, 2);
    book.keep(1, 1, 0);
    is("27: an element", thrown(book, 0, 0), 0);
    is("27: place below", thrown(book, 0, -1), 2);
    is("27: place above", thrown(book, 0, 2), 2);
    is("27: place high", thrown(book, 0, HIGH), 2);
    is("27: no row", thrown(book, 1, 0), 2);
    is("27: nothing is held", thrown(book, 2, 0), 2);
    is("27: shelf below", thrown(book, -1, 0), 1);
    is("27: shelf above", thrown(book, 8, 0), 1);
    is("27: shelf above is ahead of the place", thrown(book, 8, -1), 1);
  }

  private static void copy() {
    NightBook book = one(0, 0);
    for (int i = 0; i < 8; i++) {
      book.slept(0, i, i % 7, false);
    }
    book.keep(0, 3, 0);
    is("28: onto itself, ahead", book.copy(0, 0, 0, 1, 6), 6);
    int[] ahead = {1, 1, 2, 4, 8, 16, 32, 1};
    for (int i = 0; i < 8; i++) {
      is("28: as they all were before, place " + i, book.element(0, i), ahead[i]);
    }
    is("28: onto itself, back", book.copy(0, 2, 0, 0, 6), 6);
    int[] back = {2, 4, 8, 16, 32, 1, 32, 1};
    for (int i = 0; i < 8; i++) {
      is("28: as they all were before, place " + i, book.element(0, i), back[i]);
    }
    book.make(1, 3, 3);
    is("28: to another row", book.copy(0, 3, 1, 1, 2), 2);
    is("28: not before it", book.element(1, 0), 0);
    is("28: the first", book.element(1, 1), 16);
    is("28: the last", book.element(1, 2), 32);
    is("28: the source stays", book.element(0, 3), 16);
    is("28: none", book.copy(0, 400, 1, 3, 0), 0);
    is("28: beyond the source", book.copy(1, 2, 0, 0, 2), -13);
    is("28: beyond the target", book.copy(0, 0, 1, 2, 2), -13);
    is("28: none, yet beyond", book.copy(0, 401, 1, 0, 0), -13);
    is("28: none, yet beyond", book.copy(0, 0, 1, 4, 0), -13);
    is("28: n below", book.copy(0, 1, 1, 1, -1), -13);
    is("28: i below", book.copy(0, -1, 1, 0, 1), -13);
    is("28: j below", book.copy(0, 0, 1, -1, 1), -13);
    is("28: n high", book.copy(0, 1, 1, 1, HIGH), -13);
    is("28: i high", book.copy(0, HIGH, 1, 1, 1), -13);
    is("28: refused ones change nothing", book.element(1, 2), 32);
    copyRefusals(book);
  }

  private static void copyRefusals(NightBook book) {
    book.make(2, 4, 9);
    book.keep(3, 2, 0);
    is("28: not of one kind", book.copy(0, 0, 2, 0, 1), -12);
    is("28: a mark is no row", book.copy(3, 0, 1, 0, 1), -12);
    is("28: a mark is no row", book.copy(1, 0, 3, 0, 1), -12);
    is("28: nothing is held", book.copy(5, 0, 1, 0, 1), -11);
    is("28: nothing is held", book.copy(1, 0, 5, 0, 1), -11);
    is("28: -11 is ahead of -12", book.copy(3, 0, 5, 0, 1), -11);
    is("28: -12 is ahead of -13", book.copy(0, 0, 2, 0, -1), -12);
    is("28: shelf above", book.copy(8, 0, 1, 0, 1), -1);
    is("28: shelf below", book.copy(1, 0, -1, 0, 1), -1);
    is("28: -1 is ahead of -11", book.copy(5, 0, 8, 0, 1), -1);
    book.keep(4, 4, 0);
    is("28: shorts", book.copy(4, 1, 2, 2, 2), 2);
    is("28: short", book.element(2, 2), 393);
  }

  private static void weight() {
    NightBook book = one(0, 0);
    book.law(3, 20, 30);
    book.law(13, 20, 30);
    book.law(23, 20, 30);
    book.law(33, 20, 30);
    book.span(0, 0, 399, 255);
    book.slept(0, 0, 0, false);
    book.stamp(0, 5, 5, 0);
    book.slept(0, 7, 0, true);
    int[][] due = {{30, 131, 62, 266}, {401, 52, 72, 104}};
    for (int what = 1; what <= 2; what++) {
      for (int k = 0; k < 4; k++) {
        book.keep(k, what, k);
        is("29: weight of kind " + k + ", " + what, book.weight(k), due[what - 1][k]);
      }
    }
    book.drop(1, true);
    is("29: dropped or not", book.weight(1), 52);
    book.make(0, 3, 1);
    book.make(1, 4, 1);
    is("29: a row of bytes", book.weight(0), -12);
    is("29: a row of shorts", book.weight(1), -12);
    is("29: nothing", book.weight(4), -11);
    is("29: shelf above", book.weight(8), -1);
    is("29: shelf below", book.weight(-1), -1);
  }

  private static void toss() {
    NightBook book = one(0, 0);
    for (int kind = 0; kind < 4; kind++) {
      book.law(10 * kind + 7 - kind, 1, 1);
    }
    book.span(0, 0, 399, 255);
    book.slept(0, 0, 0, false);
    book.stamp(0, 5, 5, 0);
    book.slept(0, 7, 0, true);
    int[][] due = {{7, 6, -15, 4}, {100, 101, 102, -15}};
    for (int what = 1; what <= 2; what++) {
      for (int k = 0; k < 4; k++) {
        book.keep(k, what, k);
        is("30: failure of kind " + k + ", " + what, book.toss(k), due[what - 1][k]);
        is("30: it stays on its shelf", book.toss(k), due[what - 1][k]);
      }
    }
    book.make(0, 3, 1);
    book.make(1, 4, 1);
    is("30: a row of bytes", book.toss(0), -12);
    is("30: a row of shorts", book.toss(1), -12);
    is("30: nothing", book.toss(4), -11);
    is("30: shelf above", book.toss(8), -1);
    is("30: shelf below", book.toss(-1), -1);
  }

  private static void orderOfRefusals() {
    NightBook book = one(0, 0);
    book.person(0, 0);
    book.slept(0, 1, 0, false);
    book.slept(1, 1, 1, false);
    is("11: marks that can't meet", book.join(0, 1), -4);
    book.drop(1, true);
    book.join(0, 1);
    is("3: -3 is ahead of -4", book.span(1, 1, 1, 2), -3);
    is("6: the one that came can't come back", book.drop(1, false), -4);
    is("11: -3 is ahead of all but -1", book.join(1, 0), -3);
    is("11: -1 is ahead of -3", book.join(1, 7), -1);
  }

  /** As many of each as there can be: no call goes beyond them. */
  private static void fullBook() {
    NightBook book = new NightBook();
    for (int i = 0; i < 6; i++) {
      book.person(i, i);
    }
    for (int i = 0; i < 80; i++) {
      book.slept(i % 5, 5 * i, i % 5, false);
    }
    for (int i = 0; i < 12; i++) {
      book.law(10 * (i % 4) + i % 8, i, 10);
    }
    for (int land = 0; land < 8; land++) {
      book.claim(land, 1);
    }
    is("7: no mark 80", book.mark(80, 0), -1);
    is("6: no mark 80", book.drop(80, true), -1);
    is("25: no mark 80", book.keep(0, 2, 80), -1);
    is("13: no law 12", book.kept(12, 0, 0), -1);
    is("25: no law 12", book.keep(0, 1, 12), -1);
    is("8: no person 6", book.can(6, 0), -1);
    is("23: each of one land", book.quarrels(), 0);
    is("24: none dropped", book.count(4), 0);
    for (int i = 0; i < 80; i++) {
      is("6: drop", book.drop(i, true), 1);
    }
    is("24: all dropped", book.count(4), 80);
    is("6: mark 79 again", book.drop(79, false), 1);
    is("8: its night", book.can(4, 395), 16);
    for (int i = 1; i < 6; i++) {
      is("11: join", book.join(0, i), i < 5 ? 16 : 0);
    }
    is("24: all but one joined", book.count(5), 5);
    is("8: a night that came", book.can(0, 395), 16);
    is("15: on day 0 the needs of 2, 6 and 10 nights", book.broken(0), 1 << 2 | 1 << 6 | 1 << 10);
  }

  /** No argument makes the machine throw, whatever the state. */
  private static void wildArguments() {
    int[] wild = {LOW, -1, 0, 1, 7, 8, 399, 400, HIGH};
    for (int a : wild) {
      for (int b : wild) {
        NightBook book = one(1, 2);
        book.law(1, 2, 3);
        book.span(0, 0, 399, 254);
        book.make(0, 3, 5);
        thrown(book, a, b);
        book.mark(a, b);
        book.drop(a, b > 0);
        for (int c : wild) {
          callAll(book, a, b, c);
        }
        book.keep(a, b, HIGH);
        book.make(a, 3, b);
      }
    }
    is("no call threw by itself", 1, 1);
  }

  private static void callAll(NightBook book, int a, int b, int c) {
    book.span(a, b, c, 1);
    book.stamp(c, a, b, 1);
    book.law(a, b, c);
    book.kept(a, b, c);
    book.first(a, b, c, true);
    book.free(0, a, b, c);
    book.trip(0, 1, a, b, c);
    book.claims(a, b, c);
    book.treaty(a, b, c);
    book.decides(a, b, 0, c);
    book.copy(0, a, 0, b, c);
    book.copy(a, 0, b, 0, c);
  }
}
