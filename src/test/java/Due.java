/** Counts the answers that are not as due; a test's main ends with end(). */
final class Due {
  private static final int MOST_TOLD = 100;

  private static int checked = 0;
  private static int wrong = 0;

  private Due() {
  }

  static void is(String what, long got, long want) {
    checked++;
    if (got != want) {
      wrong++;
      System.out.println(what + " answered " + got + ", due is " + want);
      if (wrong >= MOST_TOLD) {
        end("Too many to be told");
      }
    }
  }

  static void holds(String what, boolean held) {
    is(what, held ? 1 : 0, 1);
  }

  static boolean anyWrong() {
    return wrong != 0;
  }

  static void end(String test) {
    System.out.println(test + ": " + checked + " checked, " + wrong + " not as due");
    if (wrong != 0) {
      System.exit(1);
    }
  }
}
