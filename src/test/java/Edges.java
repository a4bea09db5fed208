import java.lang.reflect.InvocationTargetException;
import java.lang.reflect.Method;
import java.util.ArrayList;
import java.util.Comparator;
import java.util.IdentityHashMap;
import java.util.List;
import java.util.Map;

/**
 * What the tests of edges share: scenes to set, calls that are taken or refused
 * in them, and the running of all tests of a class by their names.
 */
final class Edges {
  static final int LOW = Integer.MIN_VALUE;
  static final int HIGH = Integer.MAX_VALUE;

  // What element threw, as numbers that no element is.
  static final long NO_SHELF = -1_000_001;
  static final long NO_ELEMENT = -1_000_002;

  // An object is used for 512 calls at most: a scene has up to 200 of them.
  private static final int QUESTIONS_A_BOOK = 300;

  interface Scene {
    void set(NightBook book);
  }

  interface Call {
    long on(NightBook book);
  }

  interface CallWith {
    long on(NightBook book, int value);
  }

  static final Scene EMPTY = book -> { };

  static final Scene ONE = book -> book.person(0, 1);

  /** Some of all: of five people the last is joined, eleven marks, one dropped, four laws. */
  static final Scene BUSY = book -> {
    book.person(0, 1);
    book.person(2, 2);
    book.person(3, 4);
    book.person(5, 6);
    book.person(7, 0);
    book.span(0, 0, 9, 3);
    book.slept(0, 4, 1, false);
    book.stamp(0, 6, 20, 1);
    book.slept(0, 30, 2, true);
    book.span(0, 100, 199, 1);
    book.span(1, 0, 399, 12);
    book.slept(1, 50, 2, true);
    book.stamp(2, 0, 399, 0);
    book.slept(3, 399, 7, false);
    book.slept(3, 0, 7, true);
    book.span(4, 200, 260, 128);
    book.drop(7, true);
    book.join(0, 4);
    book.law(0, 3, 7);
    book.law(11, 2, 0);
    book.law(22, 5, 10);
    book.law(33, 4, 0);
    book.claim(0, 20);
    book.claim(7, 100);
    book.claim(3, 1);
    book.treaty(0, 1, 57);
    book.treaty(2, 3, 2);
    book.treaty(6, 7, 0);
    book.keep(0, 1, 0);
    book.keep(1, 2, 1);
    book.keep(2, 3, 0);
    book.keep(3, 4, 1);
    book.make(4, 3, 5);
    book.make(5, 4, 60);
    book.keep(6, 1, 2);
  };

  /** No place is left: six people, the last joined to the first, 80 marks and 12 laws. */
  static final Scene FULL = book -> {
    for (int i = 0; i < 6; i++) {
      book.person(i, 7 - i);
    }
    for (int i = 0; i < 80; i++) {
      book.slept(i % 6, 5 * i, i % 8, i % 4 == 3);
    }
    book.join(0, 5);
    for (int i = 0; i < 12; i++) {
      book.law(10 * (i % 4) + i % 8, 3, 10);
    }
  };

  private static final List<Call> QUESTIONS = questions();
  private static final Map<Scene, List<Long>> ANSWERS = new IdentityHashMap<>();

  private static String test = "";

  private Edges() {
  }

  /** Runs each method whose name begins with a promise's number; each promise must have one. */
  static void run(Class<?> tests, int firstPromise, int lastPromise) {
    List<Method> methods = new ArrayList<>(List.of(tests.getDeclaredMethods()));
    methods.removeIf(method -> !method.getName().startsWith("promise"));
    methods.sort(Comparator.comparing(Method::getName));
    for (Method method : methods) {
      test = method.getName();
      try {
        method.setAccessible(true);
        method.invoke(null);
      } catch (InvocationTargetException e) {
        e.getCause().printStackTrace(System.out);
        Due.holds(test + " ended without an exception", false);
      } catch (IllegalAccessException e) {
        Due.holds(test + " could be run", false);
      }
    }
    for (int promise = firstPromise; promise <= lastPromise; promise++) {
      String name = String.format("promise%02d", promise);
      Due.holds(name + " has a test", methods.stream().anyMatch(m -> m.getName().startsWith(name)));
    }
    System.out.println(tests.getName() + ": " + methods.size() + " tests");
    Due.end(tests.getName());
  }

  static NightBook book(Scene scene) {
    NightBook book = new NightBook();
    scene.set(book);
    return book;
  }

  static void is(long want, long got) {
    if (got != want) {
      Due.is(test + ", line " + lineOfTest(), got, want);
    } else {
      Due.is(test, got, want);
    }
  }

  /** The call's answer in a scene. */
  static void answers(long want, Scene scene, Call call) {
    is(want, call.on(book(scene)));
  }

  static void refuses(long want, Scene scene, Call call) {
    changesNothing(want, scene, call);
  }

  /** Behind the call all questions are answered as if it had not been made. */
  static void changesNothing(long want, Scene scene, Call call) {
    answers(want, scene, call);
    List<Long> before = ANSWERS.computeIfAbsent(scene, key -> ask(key, book -> 0));
    List<Long> behind = ask(scene, call);
    int same = 0;
    while (same < before.size() && before.get(same).equals(behind.get(same))) {
      same++;
    }
    // If some question is answered otherwise, its number is told.
    is(before.size(), same);
  }

  /** All that is outside of a range is refused with -1: its neighbours, and the farthest. */
  static void refusesOutside(int low, int high, Scene scene, CallWith call) {
    for (int value : new int[] {low - 1, high + 1, LOW, HIGH}) {
      refuses(-1, scene, book -> call.on(book, value));
    }
  }

  static long element(NightBook book, int d, int i) {
    try {
      return book.element(d, i);
    } catch (IllegalArgumentException e) {
      return NO_SHELF;
    } catch (IllegalStateException e) {
      return NO_ELEMENT;
    }
  }

  private static int lineOfTest() {
    return StackWalker.getInstance().walk(frames -> frames
        .filter(frame -> frame.getMethodName().contains(test))
        .findFirst().map(StackWalker.StackFrame::getLineNumber).orElse(0));
  }

  private static List<Long> ask(Scene scene, Call call) {
    List<Long> answers = new ArrayList<>();
    NightBook book = null;
    for (int i = 0; i < QUESTIONS.size(); i++) {
      if (book == null || i % QUESTIONS_A_BOOK == 0) {
        book = book(scene);
        call.on(book);
      }
      answers.add(QUESTIONS.get(i).on(book));
    }
    askByChanging(scene, call, answers);
    return answers;
  }

  /** What only calls tell that change something: the numbers that come next, and what was there. */
  private static void askByChanging(Scene scene, Call call, List<Long> answers) {
    NightBook book = book(scene);
    call.on(book);
    for (int land = 0; land < 8; land++) {
      answers.add((long) book.claim(land, 100));
      for (int other = 0; other < land; other++) {
        answers.add((long) book.treaty(land, other, 0));
      }
    }
    answers.add((long) book.person(0, 0));
    answers.add((long) book.law(0, 0, 1));
    for (int person = 0; person < 6; person++) {
      answers.add((long) book.span(person, 0, 399, 255));
      answers.add((long) book.join(person, (person + 1) % 6));
    }
  }

  private static List<Call> questions() {
    List<Call> all = new ArrayList<>();
    for (int what = -1; what < 7; what++) {
      int w = what;
      all.add(book -> book.count(w));
    }
    for (int mark = 0; mark < 80; mark++) {
      for (int what = 0; what < 6; what++) {
        int m = mark;
        int w = what;
        all.add(book -> book.mark(m, w));
      }
    }
    all.add(NightBook::quarrels);
    for (int person = 0; person < 6; person++) {
      questionsOfPerson(all, person);
    }
    for (int shelf = 0; shelf < 8; shelf++) {
      questionsOfShelf(all, shelf);
    }
    return all;
  }

  private static void questionsOfPerson(List<Call> all, int p) {
    for (int day = 0; day < 400; day++) {
      int d = day;
      all.add(book -> book.can(p, d));
    }
    for (int law = 0; law < 12; law++) {
      int k = law;
      all.add(book -> book.kept(k, p, 399));
      all.add(book -> book.first(k, p, 0, true));
      all.add(book -> book.first(k, p, 0, false));
    }
    all.add(book -> book.broken(p));
    all.add(book -> book.sure(p, 0, 399));
    for (int land = 0; land < 8; land++) {
      int l = land;
      all.add(book -> book.nights(p, l, 0, 399, false));
      all.add(book -> book.nights(p, l, 0, 399, true));
      all.add(book -> book.free(p, l, 40, 60));
    }
    for (int year = 0; year < 4; year++) {
      questionsOfYear(all, p, year);
    }
  }

  private static void questionsOfYear(List<Call> all, int p, int y) {
    all.add(book -> book.taxed(p, y));
    for (int land = 0; land < 8; land++) {
      int l = land;
      all.add(book -> book.claims(l, p, y));
      for (int other = 0; other < land; other++) {
        int o = other;
        all.add(book -> book.decides(l, o, p, y));
      }
    }
  }

  private static void questionsOfShelf(List<Call> all, int d) {
    all.add(book -> book.weight(d));
    all.add(book -> book.toss(d));
    for (int place = 0; place <= 400; place++) {
      int i = place;
      all.add(book -> element(book, d, i));
    }
  }
}
