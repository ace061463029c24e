/** Counts the answers of one test and prints those that are not due. */
final class Checks {
  private final String test;
  private int passed;
  private int failed;

  Checks(String test) {
    this.test = test;
  }

  void same(String what, long got, long due) {
    if (got == due) {
      passed++;
    } else {
      failed++;
      System.out.println(test + ": " + what + ": got " + hex(got) + ", due is " + hex(due));
    }
  }

  void holds(String what, boolean got) {
    same(what, got ? 1 : 0, 1);
  }

  void refuses(String what, Runnable call) {
    boolean refused = false;
    try {
      call.run();
    } catch (IllegalArgumentException e) {
      // A class below IllegalArgumentException is not what the document asks.
      refused = e.getClass() == IllegalArgumentException.class;
    }
    holds(what + " throws IllegalArgumentException", refused);
  }

  void end() {
    System.out.println(test + ": " + passed + " answers as due, " + failed + " not");
    if (failed != 0 || passed == 0) {
      System.exit(1);
    }
  }

  private static String hex(long v) {
    return v + " (" + Long.toHexString(v) + "h)";
  }
}
