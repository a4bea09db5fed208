import java.lang.management.ManagementFactory;

/** A run of 512 dear calls takes but a small part of the room that all runs share. */
public final class RoomTests {
  private static final int CALLS = 512;
  private static final int BYTES_A_CALL = 2048;
  private static final String[] NAMES = {"a book and its marks", "keep", "element that throws", "toss", "free", "trip",
      "refused spans", "drop", "broken", "quarrels"};

  public static void main(String[] args) {
    com.sun.management.ThreadMXBean threads = (com.sun.management.ThreadMXBean) ManagementFactory.getThreadMXBean();
    long thread = Thread.currentThread().getId();
    for (int what = 0; what < NAMES.length; what++) {
      run(what);
      long before = threads.getThreadAllocatedBytes(thread);
      run(what);
      long taken = threads.getThreadAllocatedBytes(thread) - before;
      Due.holds(NAMES[what] + " took " + taken + " bytes", taken < (long) CALLS * BYTES_A_CALL);
    }
    Due.end("RoomTests");
  }

  private static void run(int what) {
    NightBook book = new NightBook();
    int calls = 0;
    for (; calls < 6; calls++) {
      book.person(0, calls);
    }
    for (int i = 0; i < 80; i++, calls++) {
      book.span(i % 2, 0, 399, 255);
    }
    for (int i = 0; i < 12; i++, calls++) {
      book.law(10 * (i % 4), 100, 200);
    }
    book.keep(1, 2, 0);
    calls++;
    for (; calls < CALLS && what > 0; calls++) {
      call(book, what, calls);
    }
  }

  private static void call(NightBook book, int what, int i) {
    switch (what) {
      case 1:
        book.keep(0, 3, 0);
        break;
      case 2:
        try {
          book.element(1, 0);
        } catch (IllegalStateException e) {
          break;
        }
        break;
      case 3:
        book.toss(1);
        break;
      case 4:
        book.free(0, 1, 0, 399);
        break;
      case 5:
        book.trip(0, 1, 0, 399, 5);
        break;
      case 6:
        book.span(0, 0, 399, 1);
        break;
      case 7:
        book.drop(i % 80, i % 160 < 80);
        break;
      case 8:
        book.broken(0);
        break;
      default:
        book.quarrels();
        break;
    }
  }
}
