/**
 * Counts the answers of one test and prints those that are not due, with the document's sentence that is
 * being tested where the test names one.
 */
final class Checks {
  private final String test;
  private int passed;
  private int failed;
  private String sentence = "";
  private int beforeSentence;

  Checks(String test) {
    this.test = test;
  }

  /** What is checked from here on belongs to these words of the document. */
  void sentence(String words) {
    endSentence();
    sentence = words;
    beforeSentence = passed + failed;
  }

  /** A sentence without an answer would look tested and not be. */
  private void endSentence() {
    if (!sentence.isEmpty() && beforeSentence == passed + failed) {
      failed++;
      System.out.println(test + ": nothing was checked for \"" + sentence + "\"");
    }
  }

  void same(String what, long got, long due) {
    if (got == due) {
      passed++;
    } else {
      failed++;
      String said = sentence.isEmpty() ? "" : " \"" + sentence + "\"";
      System.out.println(test + said + ": " + what + ": got " + hex(got) + ", due is " + hex(due));
    }
  }

  void holds(String what, boolean got) {
    same(what, got ? 1 : 0, 1);
  }

  void refuses(String what, Runnable call) {
    boolean refused = false;
    try {
      call.run();
    } catch (IllegalArgumentException e) {
      // A class below IllegalArgumentException is not what the document asks.
      refused = e.getClass() == IllegalArgumentException.class;
    }
    holds(what + " throws IllegalArgumentException", refused);
  }

  void end() {
    endSentence();
    System.out.println(test + ": " + passed + " answers as due, " + failed + " not");
    if (failed != 0 || passed == 0) {
      System.exit(1);
    }
  }

  private static String hex(long v) {
    return v + " (" + Long.toHexString(v) + "h)";
  }
}
