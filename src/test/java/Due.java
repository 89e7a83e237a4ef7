/** Counts the answers that are not as due, and ends a test. */
final class Due {
  private static int wrong = 0;
  private static int looked = 0;

  private Due() {}

  static void is(String what, long got, long want) {
    looked++;
    if (got == want) return;
    wrong++;
    System.out.println(what + " answered " + got + ", due is " + want);
  }

  static void is(String what, boolean got, boolean want) {
    is(what, got ? 1 : 0, want ? 1 : 0);
  }

  static void end() {
    System.out.println(looked + " answers, " + wrong + " of them not as due");
    if (wrong != 0 || looked == 0) System.exit(1);
  }
}
